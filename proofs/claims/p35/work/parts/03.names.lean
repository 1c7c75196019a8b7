/-! ===== BEGIN words of one list among another's, by their places ===== -/
theorem goodIn_r {big : List Cond} (ws : List Cond) (ps : List Nat) (hp : ws = ps.filterMap (fun i => big[i]?)) (h : ws.all goodWord = true) : GoodIn big ws := by
  intro w hw
  have h1 := List.all_eq_true.mp h w hw
  rw [hp] at hw
  obtain ⟨i, -, hi⟩ := List.mem_filterMap.mp hw
  have hm : w ∈ big := by first | exact List.mem_of_getElem? hi | exact List.getElem?_mem hi
  exact ⟨hm, good_of_word h1⟩
theorem goodIn_app {big a b : List Cond} (ha : GoodIn big a) (hb : GoodIn big b) : GoodIn big (a ++ b) := fun w h => (List.mem_append.mp h).elim (ha w) (hb w)
theorem goodIn_ca {big a b : List Cond} {c : Cond} (ha : GoodIn big (c :: a)) (hb : GoodIn big b) : GoodIn big (c :: (a ++ b)) := fun w h => (List.mem_cons.mp h).elim (fun e => ha w (List.mem_cons.mpr (Or.inl e))) (fun h => (List.mem_append.mp h).elim (fun h => ha w (List.mem_cons.mpr (Or.inr h))) (hb w))
theorem goodIn_sub {big ws : List Cond} (hm : ∀ w ∈ ws, w ∈ big) (h : ws.all goodWord = true) : GoodIn big ws := fun w hw => ⟨hm w hw, good_of_word (List.all_eq_true.mp h w hw)⟩
/-! ===== END ===== -/

/-! ===== BEGIN printed: names, fields, word lists, decode rows ===== -/
def RX0 : String := "ShelfStages$Batches"
def TX0 : u_T := fun k => match k with
  | 0 => ("ShelfStages$Batches", "size", "I", false)
  | 1 => ("ShelfStages$Batches", "good", "[I", true)
  | 2 => ("ShelfStages$Batches", "came", "[I", true)
  | 3 => ("ShelfStages$Batches", "left", "[I", true)
  | 4 => ("ShelfStages$Batches", "shelf", "[I", true)
  | 5 => ("ShelfStages$Batches", "sold", "[I", true)
  | 6 => ("ShelfStages$Batches", "given", "[I", true)
  | 7 => ("ShelfStages$Batches", "cents", "[I", true)
  | _ => ("ShelfStages$Batches", "wasted", "[[I", true)
def tyX0 : Nat → FieldType := fun k => match k with
  | 0 => .int
  | 1 => .array .int
  | 2 => .array .int
  | 3 => .array .int
  | 4 => .array .int
  | 5 => .array .int
  | 6 => .array .int
  | 7 => .array .int
  | _ => .array (.array .int)
abbrev wsX00 : List Cond := u_ws RX0 TX0 9
theorem nmX0 : ∀ a, a < 9 → ∀ b, b < 9 → a ≠ b → (TX0 a).2.1 ≠ (TX0 b).2.1 := by decide +kernel
theorem tyX0_ok : ∀ k, k < 9 → parseFieldDescriptor (TX0 k).2.2.1 = some (tyX0 k) := by decide +kernel
abbrev cX0_init : ByteArray := prog_2_method_1_code
def yX0_init : MethodName := ⟨RX0, "<init>", "()V"⟩
abbrev cX0_copyFrom : ByteArray := prog_2_method_2_code
def yX0_copyFrom : MethodName := ⟨RX0, "copyFrom", "(LShelfStages$Batches;)V"⟩
abbrev cX0_append : ByteArray := prog_2_method_3_code
def yX0_append : MethodName := ⟨RX0, "append", "(III)I"⟩
abbrev cX0_age : ByteArray := prog_2_method_4_code
def yX0_age : MethodName := ⟨RX0, "age", "()V"⟩
abbrev cX0_wastedOf : ByteArray := prog_2_method_5_code
def yX0_wastedOf : MethodName := ⟨RX0, "wastedOf", "(I)I"⟩
abbrev cX0_wastedOfAll : ByteArray := prog_2_method_6_code
def yX0_wastedOfAll : MethodName := ⟨RX0, "wastedOfAll", "()I"⟩
abbrev cX0_sum : ByteArray := prog_2_method_7_code
def yX0_sum : MethodName := ⟨RX0, "sum", "([I)I"⟩
abbrev cX0_sumOfGood : ByteArray := prog_2_method_8_code
def yX0_sumOfGood : MethodName := ⟨RX0, "sumOfGood", "([II)I"⟩
abbrev cX0_countOfGood : ByteArray := prog_2_method_9_code
def yX0_countOfGood : MethodName := ⟨RX0, "countOfGood", "(I)I"⟩
def RX1 : String := "ShelfStages$Delivery"
def TX1 : u_T := fun k => match k with
  | 0 => ("ShelfStages$Delivery", "size", "I", false)
  | 1 => ("ShelfStages$Delivery", "part", "I", false)
  | 2 => ("ShelfStages$Delivery", "digits", "I", false)
  | _ => ("ShelfStages$Delivery", "numbers", "[[I", true)
def tyX1 : Nat → FieldType := fun k => match k with
  | 0 => .int
  | 1 => .int
  | 2 => .int
  | _ => .array (.array .int)
abbrev wsX10 : List Cond := u_ws RX1 TX1 4
theorem nmX1 : ∀ a, a < 4 → ∀ b, b < 4 → a ≠ b → (TX1 a).2.1 ≠ (TX1 b).2.1 := by decide +kernel
theorem tyX1_ok : ∀ k, k < 4 → parseFieldDescriptor (TX1 k).2.2.1 = some (tyX1 k) := by decide +kernel
abbrev cX1_init : ByteArray := prog_3_method_1_code
def yX1_init : MethodName := ⟨RX1, "<init>", "()V"⟩
def RX2 : String := "ShelfStages$Filling"
def TX2 : u_T := fun k => match k with
  | 0 => ("ShelfStages$Filling", "size", "I", false)
  | 1 => ("ShelfStages$Filling", "got", "I", false)
  | 2 => ("ShelfStages$Filling", "replaced", "I", false)
  | 3 => ("ShelfStages$Filling", "batch", "[I", true)
  | 4 => ("ShelfStages$Filling", "units", "[I", true)
  | 5 => ("ShelfStages$Filling", "cents", "[I", true)
  | 6 => ("ShelfStages$Filling", "rest", "[I", true)
  | 7 => ("ShelfStages$Filling", "price", "[F", true)
  | 8 => ("ShelfStages$Filling", "orderedGood", "I", false)
  | 9 => ("ShelfStages$Filling", "wanted", "I", false)
  | _ => ("ShelfStages$Filling", "least", "I", false)
def tyX2 : Nat → FieldType := fun k => match k with
  | 0 => .int
  | 1 => .int
  | 2 => .int
  | 3 => .array .int
  | 4 => .array .int
  | 5 => .array .int
  | 6 => .array .int
  | 7 => .array .float
  | 8 => .int
  | 9 => .int
  | _ => .int
abbrev wsX20 : List Cond := u_ws RX2 TX2 11
theorem nmX2 : ∀ a, a < 11 → ∀ b, b < 11 → a ≠ b → (TX2 a).2.1 ≠ (TX2 b).2.1 := by decide +kernel
theorem tyX2_ok : ∀ k, k < 11 → parseFieldDescriptor (TX2 k).2.2.1 = some (tyX2 k) := by decide +kernel
abbrev cX2_init : ByteArray := prog_4_method_1_code
def yX2_init : MethodName := ⟨RX2, "<init>", "()V"⟩
abbrev cX2_fill : ByteArray := prog_4_method_2_code
def yX2_fill : MethodName := ⟨RX2, "fill", "(LShelfStages$State;IIIZ)V"⟩
abbrev cX2_due : ByteArray := prog_4_method_3_code
def yX2_due : MethodName := ⟨RX2, "due", "(F)I"⟩
abbrev cX2_takeFrom : ByteArray := prog_4_method_4_code
def yX2_takeFrom : MethodName := ⟨RX2, "takeFrom", "(LShelfStages$State;I)V"⟩
abbrev cX2_takePart : ByteArray := prog_4_method_5_code
def yX2_takePart : MethodName := ⟨RX2, "takePart", "(LShelfStages$State;II)V"⟩
abbrev cX2_chargedPrice : ByteArray := prog_4_method_6_code
def yX2_chargedPrice : MethodName := ⟨RX2, "chargedPrice", "(LShelfStages$State;I)F"⟩
abbrev cX2_nextBatch : ByteArray := prog_4_method_7_code
def yX2_nextBatch : MethodName := ⟨RX2, "nextBatch", "(LShelfStages$State;I)I"⟩
abbrev cX2_isOpen : ByteArray := prog_4_method_8_code
def yX2_isOpen : MethodName := ⟨RX2, "isOpen", "(LShelfStages$State;II)Z"⟩
abbrev cX2_isBefore : ByteArray := prog_4_method_9_code
def yX2_isBefore : MethodName := ⟨RX2, "isBefore", "(LShelfStages$State;II)Z"⟩
def RX3 : String := "ShelfStages$Goods"
def TX3 : u_T := fun k => match k with
  | 0 => ("ShelfStages$Goods", "size", "I", false)
  | 1 => ("ShelfStages$Goods", "price", "[I", true)
  | 2 => ("ShelfStages$Goods", "life", "[I", true)
  | 3 => ("ShelfStages$Goods", "listed", "[I", true)
  | _ => ("ShelfStages$Goods", "list", "[I", true)
def tyX3 : Nat → FieldType := fun k => match k with
  | 0 => .int
  | 1 => .array .int
  | 2 => .array .int
  | 3 => .array .int
  | _ => .array .int
abbrev wsX30 : List Cond := u_ws RX3 TX3 5
theorem nmX3 : ∀ a, a < 5 → ∀ b, b < 5 → a ≠ b → (TX3 a).2.1 ≠ (TX3 b).2.1 := by decide +kernel
theorem tyX3_ok : ∀ k, k < 5 → parseFieldDescriptor (TX3 k).2.2.1 = some (tyX3 k) := by decide +kernel
abbrev cX3_init : ByteArray := prog_5_method_1_code
def yX3_init : MethodName := ⟨RX3, "<init>", "()V"⟩
abbrev cX3_copyFrom : ByteArray := prog_5_method_2_code
def yX3_copyFrom : MethodName := ⟨RX3, "copyFrom", "(LShelfStages$Goods;)V"⟩
abbrev cX3_append : ByteArray := prog_5_method_3_code
def yX3_append : MethodName := ⟨RX3, "append", "(II)I"⟩
abbrev cX3_listedAt : ByteArray := prog_5_method_4_code
def yX3_listedAt : MethodName := ⟨RX3, "listedAt", "(II)I"⟩
abbrev cX3_lists : ByteArray := prog_5_method_5_code
def yX3_lists : MethodName := ⟨RX3, "lists", "(II)Z"⟩
abbrev cX3_insert : ByteArray := prog_5_method_6_code
def yX3_insert : MethodName := ⟨RX3, "insert", "(III)V"⟩
def RX4 : String := "ShelfStages$History"
def TX4 : u_T := fun k => match k with
  | 0 => ("ShelfStages$History", "states", "[LShelfStages$State;", true)
  | 1 => ("ShelfStages$History", "oldest", "I", false)
  | _ => ("ShelfStages$History", "size", "I", false)
def tyX4 : Nat → FieldType := fun k => match k with
  | 0 => .array (.object "ShelfStages$State")
  | 1 => .int
  | _ => .int
abbrev wsX40 : List Cond := u_ws RX4 TX4 3
theorem nmX4 : ∀ a, a < 3 → ∀ b, b < 3 → a ≠ b → (TX4 a).2.1 ≠ (TX4 b).2.1 := by decide +kernel
theorem tyX4_ok : ∀ k, k < 3 → parseFieldDescriptor (TX4 k).2.2.1 = some (tyX4 k) := by decide +kernel
abbrev cX4_init : ByteArray := prog_6_method_1_code
def yX4_init : MethodName := ⟨RX4, "<init>", "()V"⟩
abbrev cX4_push : ByteArray := prog_6_method_2_code
def yX4_push : MethodName := ⟨RX4, "push", "(LShelfStages$State;)V"⟩
abbrev cX4_popInto : ByteArray := prog_6_method_3_code
def yX4_popInto : MethodName := ⟨RX4, "popInto", "(LShelfStages$State;)V"⟩
def RX5 : String := "ShelfStages$Log"
def TX5 : u_T := fun k => match k with
  | 0 => ("ShelfStages$Log", "size", "I", false)
  | 1 => ("ShelfStages$Log", "next", "I", false)
  | 2 => ("ShelfStages$Log", "kind", "[I", true)
  | 3 => ("ShelfStages$Log", "batch", "[I", true)
  | 4 => ("ShelfStages$Log", "units", "[I", true)
  | _ => ("ShelfStages$Log", "day", "[I", true)
def tyX5 : Nat → FieldType := fun k => match k with
  | 0 => .int
  | 1 => .int
  | 2 => .array .int
  | 3 => .array .int
  | 4 => .array .int
  | _ => .array .int
abbrev wsX50 : List Cond := u_ws RX5 TX5 6
theorem nmX5 : ∀ a, a < 6 → ∀ b, b < 6 → a ≠ b → (TX5 a).2.1 ≠ (TX5 b).2.1 := by decide +kernel
theorem tyX5_ok : ∀ k, k < 6 → parseFieldDescriptor (TX5 k).2.2.1 = some (tyX5 k) := by decide +kernel
abbrev cX5_init : ByteArray := prog_7_method_1_code
def yX5_init : MethodName := ⟨RX5, "<init>", "()V"⟩
abbrev cX5_copyFrom : ByteArray := prog_7_method_2_code
def yX5_copyFrom : MethodName := ⟨RX5, "copyFrom", "(LShelfStages$Log;)V"⟩
abbrev cX5_append : ByteArray := prog_7_method_3_code
def yX5_append : MethodName := ⟨RX5, "append", "(IIII)V"⟩
abbrev cX5_placeOf : ByteArray := prog_7_method_4_code
def yX5_placeOf : MethodName := ⟨RX5, "placeOf", "(I)I"⟩
def RX6 : String := "ShelfStages$Orders"
def TX6 : u_T := fun k => match k with
  | 0 => ("ShelfStages$Orders", "size", "I", false)
  | 1 => ("ShelfStages$Orders", "takes", "I", false)
  | 2 => ("ShelfStages$Orders", "good", "[I", true)
  | 3 => ("ShelfStages$Orders", "wanted", "[I", true)
  | 4 => ("ShelfStages$Orders", "got", "[I", true)
  | 5 => ("ShelfStages$Orders", "replaced", "[I", true)
  | 6 => ("ShelfStages$Orders", "least", "[I", true)
  | 7 => ("ShelfStages$Orders", "accepts", "[I", true)
  | 8 => ("ShelfStages$Orders", "parts", "[I", true)
  | 9 => ("ShelfStages$Orders", "due", "[I", true)
  | 10 => ("ShelfStages$Orders", "day", "[I", true)
  | 11 => ("ShelfStages$Orders", "firstTake", "[I", true)
  | 12 => ("ShelfStages$Orders", "takeBatch", "[I", true)
  | _ => ("ShelfStages$Orders", "takeUnits", "[I", true)
def tyX6 : Nat → FieldType := fun k => match k with
  | 0 => .int
  | 1 => .int
  | 2 => .array .int
  | 3 => .array .int
  | 4 => .array .int
  | 5 => .array .int
  | 6 => .array .int
  | 7 => .array .int
  | 8 => .array .int
  | 9 => .array .int
  | 10 => .array .int
  | 11 => .array .int
  | 12 => .array .int
  | _ => .array .int
abbrev wsX60 : List Cond := u_ws RX6 TX6 14
theorem nmX6 : ∀ a, a < 14 → ∀ b, b < 14 → a ≠ b → (TX6 a).2.1 ≠ (TX6 b).2.1 := by decide +kernel
theorem tyX6_ok : ∀ k, k < 14 → parseFieldDescriptor (TX6 k).2.2.1 = some (tyX6 k) := by decide +kernel
abbrev cX6_init : ByteArray := prog_8_method_1_code
def yX6_init : MethodName := ⟨RX6, "<init>", "()V"⟩
abbrev cX6_copyFrom : ByteArray := prog_8_method_2_code
def yX6_copyFrom : MethodName := ⟨RX6, "copyFrom", "(LShelfStages$Orders;)V"⟩
abbrev cX6_append : ByteArray := prog_8_method_3_code
def yX6_append : MethodName := ⟨RX6, "append", "(IIIZI)V"⟩
abbrev cX6_appendTake : ByteArray := prog_8_method_4_code
def yX6_appendTake : MethodName := ⟨RX6, "appendTake", "(II)V"⟩
abbrev cX6_endLast : ByteArray := prog_8_method_5_code
def yX6_endLast : MethodName := ⟨RX6, "endLast", "(III)V"⟩
abbrev cX6_sum : ByteArray := prog_8_method_6_code
def yX6_sum : MethodName := ⟨RX6, "sum", "([I)I"⟩
abbrev cX6_gotForGood : ByteArray := prog_8_method_7_code
def yX6_gotForGood : MethodName := ⟨RX6, "gotForGood", "(I)I"⟩
abbrev cX6_refused : ByteArray := prog_8_method_8_code
def yX6_refused : MethodName := ⟨RX6, "refused", "()I"⟩
def RX7 : String := "ShelfStages$Stages"
def TX7 : u_T := fun k => match k with
  | 0 => ("ShelfStages$Stages", "share", "[I", true)
  | _ => ("ShelfStages$Stages", "markdown", "[F", true)
def tyX7 : Nat → FieldType := fun k => match k with
  | 0 => .array .int
  | _ => .array .float
abbrev wsX70 : List Cond := u_ws RX7 TX7 2
theorem nmX7 : ∀ a, a < 2 → ∀ b, b < 2 → a ≠ b → (TX7 a).2.1 ≠ (TX7 b).2.1 := by decide +kernel
theorem tyX7_ok : ∀ k, k < 2 → parseFieldDescriptor (TX7 k).2.2.1 = some (tyX7 k) := by decide +kernel
abbrev cX7_init : ByteArray := prog_9_method_1_code
def yX7_init : MethodName := ⟨RX7, "<init>", "()V"⟩
abbrev cX7_copyFrom : ByteArray := prog_9_method_2_code
def yX7_copyFrom : MethodName := ⟨RX7, "copyFrom", "(LShelfStages$Stages;)V"⟩
abbrev cX7_reached : ByteArray := prog_9_method_4_code
def yX7_reached : MethodName := ⟨RX7, "reached", "(II)I"⟩
def RX8 : String := "ShelfStages$State"
def TX8 : u_T := fun k => match k with
  | 0 => ("ShelfStages$State", "goods", "LShelfStages$Goods;", true)
  | 1 => ("ShelfStages$State", "batches", "LShelfStages$Batches;", true)
  | 2 => ("ShelfStages$State", "orders", "LShelfStages$Orders;", true)
  | 3 => ("ShelfStages$State", "stages", "LShelfStages$Stages;", true)
  | 4 => ("ShelfStages$State", "log", "LShelfStages$Log;", true)
  | 5 => ("ShelfStages$State", "settings", "[I", true)
  | 6 => ("ShelfStages$State", "rebate", "F", false)
  | _ => ("ShelfStages$State", "day", "I", false)
def tyX8 : Nat → FieldType := fun k => match k with
  | 0 => .object "ShelfStages$Goods"
  | 1 => .object "ShelfStages$Batches"
  | 2 => .object "ShelfStages$Orders"
  | 3 => .object "ShelfStages$Stages"
  | 4 => .object "ShelfStages$Log"
  | 5 => .array .int
  | 6 => .float
  | _ => .int
abbrev wsX80 : List Cond := u_ws RX8 TX8 8
theorem nmX8 : ∀ a, a < 8 → ∀ b, b < 8 → a ≠ b → (TX8 a).2.1 ≠ (TX8 b).2.1 := by decide +kernel
theorem tyX8_ok : ∀ k, k < 8 → parseFieldDescriptor (TX8 k).2.2.1 = some (tyX8 k) := by decide +kernel
abbrev cX8_init : ByteArray := prog_10_method_1_code
def yX8_init : MethodName := ⟨RX8, "<init>", "()V"⟩
abbrev cX8_copyFrom : ByteArray := prog_10_method_2_code
def yX8_copyFrom : MethodName := ⟨RX8, "copyFrom", "(LShelfStages$State;)V"⟩
abbrev cX8_stageOf : ByteArray := prog_10_method_3_code
def yX8_stageOf : MethodName := ⟨RX8, "stageOf", "(I)I"⟩
abbrev cX8_priceOfUnit : ByteArray := prog_10_method_4_code
def yX8_priceOfUnit : MethodName := ⟨RX8, "priceOfUnit", "(I)F"⟩
abbrev cX8_isOnShelfIn : ByteArray := prog_10_method_5_code
def yX8_isOnShelfIn : MethodName := ⟨RX8, "isOnShelfIn", "(II)Z"⟩
abbrev cX8_batchesInStage : ByteArray := prog_10_method_6_code
def yX8_batchesInStage : MethodName := ⟨RX8, "batchesInStage", "(I)I"⟩
abbrev cX8_unitsInStage : ByteArray := prog_10_method_7_code
def yX8_unitsInStage : MethodName := ⟨RX8, "unitsInStage", "(I)I"⟩
abbrev cX8_receive : ByteArray := prog_10_method_8_code
def yX8_receive : MethodName := ⟨RX8, "receive", "(III)I"⟩
abbrev cX8_sell : ByteArray := prog_10_method_9_code
def yX8_sell : MethodName := ⟨RX8, "sell", "(LShelfStages$Filling;)V"⟩
abbrev cX8_give : ByteArray := prog_10_method_10_code
def yX8_give : MethodName := ⟨RX8, "give", "(II)V"⟩
abbrev cX8_waste : ByteArray := prog_10_method_11_code
def yX8_waste : MethodName := ⟨RX8, "waste", "(III)V"⟩
abbrev cX8_wasteGood : ByteArray := prog_10_method_12_code
def yX8_wasteGood : MethodName := ⟨RX8, "wasteGood", "(I)V"⟩
abbrev cX8_passDays : ByteArray := prog_10_method_13_code
def yX8_passDays : MethodName := ⟨RX8, "passDays", "(I)I"⟩
abbrev cX8_expire : ByteArray := prog_10_method_14_code
def yX8_expire : MethodName := ⟨RX8, "expire", "()I"⟩
abbrev cX8_donate : ByteArray := prog_10_method_15_code
def yX8_donate : MethodName := ⟨RX8, "donate", "()V"⟩
def RX9 : String := "ShelfStages"
def TX9 : u_T := fun k => match k with
  | 0 => ("ShelfStages", "now", "LShelfStages$State;", true)
  | 1 => ("ShelfStages", "snapshot", "LShelfStages$State;", true)
  | 2 => ("ShelfStages", "trial", "LShelfStages$State;", true)
  | 3 => ("ShelfStages", "history", "LShelfStages$History;", true)
  | 4 => ("ShelfStages", "filling", "LShelfStages$Filling;", true)
  | 5 => ("ShelfStages", "delivery", "LShelfStages$Delivery;", true)
  | 6 => ("ShelfStages", "text", "[C", true)
  | 7 => ("ShelfStages", "textLength", "I", false)
  | _ => ("ShelfStages", "hasSnapshot", "Z", false)
def tyX9 : Nat → FieldType := fun k => match k with
  | 0 => .object "ShelfStages$State"
  | 1 => .object "ShelfStages$State"
  | 2 => .object "ShelfStages$State"
  | 3 => .object "ShelfStages$History"
  | 4 => .object "ShelfStages$Filling"
  | 5 => .object "ShelfStages$Delivery"
  | 6 => .array .char
  | 7 => .int
  | _ => .boolean
abbrev wsX90 : List Cond := u_ws RX9 TX9 9
theorem nmX9 : ∀ a, a < 9 → ∀ b, b < 9 → a ≠ b → (TX9 a).2.1 ≠ (TX9 b).2.1 := by decide +kernel
theorem tyX9_ok : ∀ k, k < 9 → parseFieldDescriptor (TX9 k).2.2.1 = some (tyX9 k) := by decide +kernel
abbrev cX9_init : ByteArray := prog_1_method_1_code
def yX9_init : MethodName := ⟨RX9, "<init>", "()V"⟩
abbrev cX9_addGood : ByteArray := prog_1_method_2_code
def yX9_addGood : MethodName := ⟨RX9, "addGood", "(II)I"⟩
abbrev cX9_addSubstitute : ByteArray := prog_1_method_4_code
def yX9_addSubstitute : MethodName := ⟨RX9, "addSubstitute", "(III)I"⟩
abbrev cX9_set : ByteArray := prog_1_method_7_code
def yX9_set : MethodName := ⟨RX9, "set", "(II)I"⟩
abbrev cX9_setRebate : ByteArray := prog_1_method_8_code
def yX9_setRebate : MethodName := ⟨RX9, "setRebate", "(I)I"⟩
abbrev cX9_bring : ByteArray := prog_1_method_9_code
def yX9_bring : MethodName := ⟨RX9, "bring", "(III)I"⟩
abbrev cX9_order : ByteArray := prog_1_method_11_code
def yX9_order : MethodName := ⟨RX9, "order", "(IIIZ)I"⟩
abbrev cX9_recall : ByteArray := prog_1_method_13_code
def yX9_recall : MethodName := ⟨RX9, "recall", "(I)I"⟩
abbrev cX9_pass : ByteArray := prog_1_method_14_code
def yX9_pass : MethodName := ⟨RX9, "pass", "(I)I"⟩
abbrev cX9_undo : ByteArray := prog_1_method_17_code
def yX9_undo : MethodName := ⟨RX9, "undo", "()I"⟩
abbrev cX9_good : ByteArray := prog_1_method_20_code
def yX9_good : MethodName := ⟨RX9, "good", "(II)I"⟩
abbrev cX9_substitute : ByteArray := prog_1_method_21_code
def yX9_substitute : MethodName := ⟨RX9, "substitute", "(II)I"⟩
abbrev cX9_batch : ByteArray := prog_1_method_22_code
def yX9_batch : MethodName := ⟨RX9, "batch", "(II)I"⟩
abbrev cX9_unitPrice : ByteArray := prog_1_method_23_code
def yX9_unitPrice : MethodName := ⟨RX9, "unitPrice", "(I)F"⟩
abbrev cX9_markdown : ByteArray := prog_1_method_24_code
def yX9_markdown : MethodName := ⟨RX9, "markdown", "(I)F"⟩
abbrev cX9_stage : ByteArray := prog_1_method_25_code
def yX9_stage : MethodName := ⟨RX9, "stage", "(II)I"⟩
abbrev cX9_orderTold : ByteArray := prog_1_method_26_code
def yX9_orderTold : MethodName := ⟨RX9, "orderTold", "(II)I"⟩
abbrev cX9_taken : ByteArray := prog_1_method_27_code
def yX9_taken : MethodName := ⟨RX9, "taken", "(III)I"⟩
abbrev cX9_wouldGet : ByteArray := prog_1_method_28_code
def yX9_wouldGet : MethodName := ⟨RX9, "wouldGet", "(IIIZI)I"⟩
abbrev cX9_wouldExpire : ByteArray := prog_1_method_29_code
def yX9_wouldExpire : MethodName := ⟨RX9, "wouldExpire", "(II)I"⟩
abbrev cX9_stageIn : ByteArray := prog_1_method_30_code
def yX9_stageIn : MethodName := ⟨RX9, "stageIn", "(II)I"⟩
abbrev cX9_event : ByteArray := prog_1_method_31_code
def yX9_event : MethodName := ⟨RX9, "event", "(II)I"⟩
abbrev cX9_count : ByteArray := prog_1_method_33_code
def yX9_count : MethodName := ⟨RX9, "count", "(I)I"⟩
abbrev cX9_within : ByteArray := prog_1_method_34_code
def yX9_within : MethodName := ⟨RX9, "within", "(III)Z"⟩
abbrev cX9_hasGood : ByteArray := prog_1_method_35_code
def yX9_hasGood : MethodName := ⟨RX9, "hasGood", "(I)Z"⟩
abbrev cX9_hasBatch : ByteArray := prog_1_method_36_code
def yX9_hasBatch : MethodName := ⟨RX9, "hasBatch", "(I)Z"⟩
abbrev cX9_hasOrder : ByteArray := prog_1_method_37_code
def yX9_hasOrder : MethodName := ⟨RX9, "hasOrder", "(I)Z"⟩
abbrev cX9_isStage : ByteArray := prog_1_method_38_code
def yX9_isStage : MethodName := ⟨RX9, "isStage", "(I)Z"⟩
abbrev cX9_isSetting : ByteArray := prog_1_method_39_code
def yX9_isSetting : MethodName := ⟨RX9, "isSetting", "(II)Z"⟩
abbrev cX9_isSupply : ByteArray := prog_1_method_40_code
def yX9_isSupply : MethodName := ⟨RX9, "isSupply", "(III)Z"⟩
abbrev cX9_placeError : ByteArray := prog_1_method_41_code
def yX9_placeError : MethodName := ⟨RX9, "placeError", "(II)I"⟩
abbrev cX9_wishError : ByteArray := prog_1_method_42_code
def yX9_wishError : MethodName := ⟨RX9, "wishError", "(III)I"⟩
abbrev cX9_floatOfBits : ByteArray := prog_1_method_45_code
def yX9_floatOfBits : MethodName := ⟨RX9, "floatOfBits", "(I)F"⟩
abbrev cX9_notANumber : ByteArray := prog_1_method_46_code
def yX9_notANumber : MethodName := ⟨RX9, "notANumber", "()F"⟩
abbrev cX9_copyRow : ByteArray := prog_1_method_47_code
def yX9_copyRow : MethodName := ⟨RX9, "copyRow", "([I[I)V"⟩
def RX10 : String := "ShelfStagesModel"
def TX10 : u_T := fun k => match k with
  | _ => ("", "", "", false)
def tyX10 : Nat → FieldType := fun k => match k with
  | _ => .int
abbrev wsX100 : List Cond := u_ws RX10 TX10 0
theorem nmX10 : ∀ a, a < 0 → ∀ b, b < 0 → a ≠ b → (TX10 a).2.1 ≠ (TX10 b).2.1 := by decide +kernel
theorem tyX10_ok : ∀ k, k < 0 → parseFieldDescriptor (TX10 k).2.2.1 = some (tyX10 k) := by decide +kernel
def RJ9 : String := "java/lang/Math"
def TJ9 : u_T := fun k => match k with
  | _ => ("", "", "", false)
def tyJ9 : Nat → FieldType := fun k => match k with
  | _ => .int
abbrev wsJ90 : List Cond := u_ws RJ9 TJ9 0
theorem nmJ9 : ∀ a, a < 0 → ∀ b, b < 0 → a ≠ b → (TJ9 a).2.1 ≠ (TJ9 b).2.1 := by decide +kernel
theorem tyJ9_ok : ∀ k, k < 0 → parseFieldDescriptor (TJ9 k).2.2.1 = some (tyJ9 k) := by decide +kernel
abbrev cJ9_floorMod_7cf53 : ByteArray := prog_13_method_50_code
def yJ9_floorMod_7cf53 : MethodName := ⟨RJ9, "floorMod", "(II)I"⟩
abbrev cJ9_min_7cf53 : ByteArray := prog_13_method_69_code
def yJ9_min_7cf53 : MethodName := ⟨RJ9, "min", "(II)I"⟩
def RJ10 : String := "java/lang/System"
def TJ10 : u_T := fun k => match k with
  | _ => ("", "", "", false)
def tyJ10 : Nat → FieldType := fun k => match k with
  | _ => .int
abbrev wsJ100 : List Cond := u_ws RJ10 TJ10 0
theorem nmJ10 : ∀ a, a < 0 → ∀ b, b < 0 → a ≠ b → (TJ10 a).2.1 ≠ (TJ10 b).2.1 := by decide +kernel
theorem tyJ10_ok : ∀ k, k < 0 → parseFieldDescriptor (TJ10 k).2.2.1 = some (tyJ10 k) := by decide +kernel
def RL : String := "ShelfStagesLaw"
abbrev cL_cell : ByteArray := method_2_code
def yL_cell : MethodName := ⟨RL, "cell", "([II)I"⟩
abbrev cL_low : ByteArray := method_3_code
def yL_low : MethodName := ⟨RL, "low", "(II)I"⟩
abbrev cL_goods : ByteArray := method_4_code
def yL_goods : MethodName := ⟨RL, "goods", "(LShelfStages;[II)Z"⟩
abbrev cL_stage : ByteArray := method_5_code
def yL_stage : MethodName := ⟨RL, "stage", "(LShelfStages;I)I"⟩
abbrev cL_addUp : ByteArray := method_6_code
def yL_addUp : MethodName := ⟨RL, "addUp", "(LShelfStages;I)Z"⟩
abbrev cL_byGoods : ByteArray := method_7_code
def yL_byGoods : MethodName := ⟨RL, "byGoods", "(LShelfStages;III)Z"⟩
abbrev cL_order : ByteArray := method_8_code
def yL_order : MethodName := ⟨RL, "order", "(LShelfStages;II)Z"⟩
abbrev cL_pass : ByteArray := method_9_code
def yL_pass : MethodName := ⟨RL, "pass", "(LShelfStages;I)Z"⟩
abbrev cL_stageIn : ByteArray := method_10_code
def yL_stageIn : MethodName := ⟨RL, "stageIn", "(LShelfStages;II)Z"⟩
abbrev cL_law : ByteArray := code
def yL_law : MethodName := ⟨RL, "law", "([I)Z"⟩
def wsX0_init : List Cond := .code yX0_init cX0_init 1 none :: ([.methodLink RX0 3 objectInit, .instanceMethod objectInit, .code objectInit ⟨#[0xb1]⟩ 1 none, .arrayClass .int, .fieldLink RX0 9 "ShelfStages$Batches" "good" "[I", .fieldLink RX0 15 "ShelfStages$Batches" "came" "[I", .fieldLink RX0 18 "ShelfStages$Batches" "left" "[I", .fieldLink RX0 21 "ShelfStages$Batches" "shelf" "[I", .fieldLink RX0 24 "ShelfStages$Batches" "sold" "[I", .fieldLink RX0 27 "ShelfStages$Batches" "given" "[I", .fieldLink RX0 30 "ShelfStages$Batches" "cents" "[I", .classLink RX0 33 "[[I", .fieldLink RX0 35 "ShelfStages$Batches" "wasted" "[[I"] ++ wsX00)
def wsX9_copyRow : List Cond := .code yX9_copyRow cX9_copyRow 2 none :: ([.methodLink RX9 357 Lib.Math.min.name, .static Lib.Math.min.name, .initialized "java/lang/Math", .code Lib.Math.min.name Lib.Math.min.code 2 (some .int), .methodLink RX9 362 arraycopyName, .native arraycopyName, .static arraycopyName, .initialized "java/lang/System"])
def wsX0_copyFrom : List Cond := .code yX0_copyFrom cX0_copyFrom 3 none :: ([.fieldLink RX0 38 "ShelfStages$Batches" "size" "I", .fieldLink RX0 9 "ShelfStages$Batches" "good" "[I", .fieldLink RX0 15 "ShelfStages$Batches" "came" "[I", .fieldLink RX0 18 "ShelfStages$Batches" "left" "[I", .fieldLink RX0 21 "ShelfStages$Batches" "shelf" "[I", .fieldLink RX0 24 "ShelfStages$Batches" "sold" "[I", .fieldLink RX0 27 "ShelfStages$Batches" "given" "[I", .fieldLink RX0 30 "ShelfStages$Batches" "cents" "[I", .fieldLink RX0 35 "ShelfStages$Batches" "wasted" "[[I", .static yX9_copyRow, .initialized RX9, .code yX9_copyRow cX9_copyRow 2 none, .methodLink RX9 357 Lib.Math.min.name, .static Lib.Math.min.name, .initialized "java/lang/Math", .code Lib.Math.min.name Lib.Math.min.code 2 (some .int), .methodLink RX9 362 arraycopyName, .native arraycopyName, .static arraycopyName, .initialized "java/lang/System"] ++ wsX00)
def wsX0_append : List Cond := .code yX0_append cX0_append 5 (some .int) :: ([.fieldLink RX0 38 "ShelfStages$Batches" "size" "I", .fieldLink RX0 9 "ShelfStages$Batches" "good" "[I", .fieldLink RX0 15 "ShelfStages$Batches" "came" "[I", .fieldLink RX0 18 "ShelfStages$Batches" "left" "[I", .fieldLink RX0 21 "ShelfStages$Batches" "shelf" "[I"] ++ wsX00)
def wsX0_age : List Cond := .code yX0_age cX0_age 2 none :: ([.fieldLink RX0 38 "ShelfStages$Batches" "size" "I", .fieldLink RX0 21 "ShelfStages$Batches" "shelf" "[I", .fieldLink RX0 18 "ShelfStages$Batches" "left" "[I"] ++ wsX00)
def wsX0_wastedOf : List Cond := .code yX0_wastedOf cX0_wastedOf 2 (some .int) :: ([.fieldLink RX0 35 "ShelfStages$Batches" "wasted" "[[I"] ++ wsX00)
def wsX0_sum : List Cond := .code yX0_sum cX0_sum 4 (some .int) :: ([.fieldLink RX0 38 "ShelfStages$Batches" "size" "I"] ++ wsX00)
def wsX0_wastedOfAll : List Cond := .code yX0_wastedOfAll cX0_wastedOfAll 1 (some .int) :: ([.fieldLink RX0 35 "ShelfStages$Batches" "wasted" "[[I", .methodLink RX0 46 yX0_sum, .instanceMethod yX0_sum, .selects RX0 yX0_sum yX0_sum, .initialized RX0, .code yX0_sum cX0_sum 4 (some .int), .fieldLink RX0 38 "ShelfStages$Batches" "size" "I"] ++ wsX00)
def wsX0_sumOfGood : List Cond := .code yX0_sumOfGood cX0_sumOfGood 5 (some .int) :: ([.fieldLink RX0 38 "ShelfStages$Batches" "size" "I", .fieldLink RX0 9 "ShelfStages$Batches" "good" "[I"] ++ wsX00)
def wsX0_countOfGood : List Cond := .code yX0_countOfGood cX0_countOfGood 4 (some .int) :: ([.fieldLink RX0 38 "ShelfStages$Batches" "size" "I", .fieldLink RX0 9 "ShelfStages$Batches" "good" "[I"] ++ wsX00)
def wsX1_init : List Cond := .code yX1_init cX1_init 1 none :: ([.methodLink RX1 3 objectInit, .instanceMethod objectInit, .code objectInit ⟨#[0xb1]⟩ 1 none, .classLink RX1 11 "[[I", .arrayClass .int, .fieldLink RX1 13 "ShelfStages$Delivery" "numbers" "[[I"] ++ wsX10)
def wsX2_init : List Cond := .code yX2_init cX2_init 1 none :: ([.methodLink RX2 3 objectInit, .instanceMethod objectInit, .code objectInit ⟨#[0xb1]⟩ 1 none, .arrayClass .int, .fieldLink RX2 9 "ShelfStages$Filling" "batch" "[I", .fieldLink RX2 15 "ShelfStages$Filling" "units" "[I", .fieldLink RX2 18 "ShelfStages$Filling" "cents" "[I", .fieldLink RX2 21 "ShelfStages$Filling" "rest" "[I", .arrayClass .float, .fieldLink RX2 24 "ShelfStages$Filling" "price" "[F"] ++ wsX20)
def wsX7_reached : List Cond := .code yX7_reached cX7_reached 4 (some .int) :: ([.fieldLink RX7 9 "ShelfStages$Stages" "share" "[I"] ++ wsX70)
def wsX8_stageOf : List Cond := .code yX8_stageOf cX8_stageOf 2 (some .int) :: ([.fieldLink RX8 35 "ShelfStages$State" "stages" "LShelfStages$Stages;", .fieldLink RX8 21 "ShelfStages$State" "batches" "LShelfStages$Batches;", .fieldLink RX8 78 "ShelfStages$Batches" "left" "[I", .fieldLink RX8 12 "ShelfStages$State" "goods" "LShelfStages$Goods;", .fieldLink RX8 81 "ShelfStages$Goods" "life" "[I", .fieldLink RX8 84 "ShelfStages$Batches" "good" "[I", .methodLink RX8 87 yX7_reached, .instanceMethod yX7_reached, .selects RX7 yX7_reached yX7_reached, .initialized RX7, .code yX7_reached cX7_reached 4 (some .int), .fieldLink RX7 9 "ShelfStages$Stages" "share" "[I"] ++ wsX80 ++ wsX00 ++ wsX30 ++ wsX70)
def wsX8_priceOfUnit : List Cond := .code yX8_priceOfUnit cX8_priceOfUnit 3 (some .float) :: ([.fieldLink RX8 12 "ShelfStages$State" "goods" "LShelfStages$Goods;", .fieldLink RX8 91 "ShelfStages$Goods" "price" "[I", .fieldLink RX8 21 "ShelfStages$State" "batches" "LShelfStages$Batches;", .fieldLink RX8 84 "ShelfStages$Batches" "good" "[I", .fieldLink RX8 35 "ShelfStages$State" "stages" "LShelfStages$Stages;", .fieldLink RX8 94 "ShelfStages$Stages" "markdown" "[F", .constantFloat RX8 102 (1120403456), .methodLink RX8 98 yX8_stageOf, .instanceMethod yX8_stageOf, .selects RX8 yX8_stageOf yX8_stageOf, .initialized RX8, .code yX8_stageOf cX8_stageOf 2 (some .int), .fieldLink RX8 78 "ShelfStages$Batches" "left" "[I", .fieldLink RX8 81 "ShelfStages$Goods" "life" "[I", .methodLink RX8 87 yX7_reached, .instanceMethod yX7_reached, .selects RX7 yX7_reached yX7_reached, .initialized RX7, .code yX7_reached cX7_reached 4 (some .int), .fieldLink RX7 9 "ShelfStages$Stages" "share" "[I"] ++ wsX80 ++ wsX30 ++ wsX00 ++ wsX70)
def wsX2_isOpen : List Cond := .code yX2_isOpen cX2_isOpen 5 (some .boolean) :: ([.fieldLink RX2 44 "ShelfStages$State" "batches" "LShelfStages$Batches;", .fieldLink RX2 104 "ShelfStages$Batches" "good" "[I", .fieldLink RX2 21 "ShelfStages$Filling" "rest" "[I", .fieldLink RX2 114 "ShelfStages$Batches" "left" "[I", .fieldLink RX2 41 "ShelfStages$Filling" "least" "I"] ++ wsX80 ++ wsX00 ++ wsX20)
def wsX2_isBefore : List Cond := .code yX2_isBefore cX2_isBefore 5 (some .boolean) :: ([.fieldLink RX2 44 "ShelfStages$State" "batches" "LShelfStages$Batches;", .fieldLink RX2 114 "ShelfStages$Batches" "left" "[I", .fieldLink RX2 117 "ShelfStages$State" "settings" "[I", .fieldLink RX2 24 "ShelfStages$Filling" "price" "[F"] ++ wsX80 ++ wsX00 ++ wsX20)
def wsX2_nextBatch : List Cond := .code yX2_nextBatch cX2_nextBatch 5 (some .int) :: ([.fieldLink RX2 44 "ShelfStages$State" "batches" "LShelfStages$Batches;", .fieldLink RX2 59 "ShelfStages$Batches" "size" "I", .methodLink RX2 107 yX2_isOpen, .instanceMethod yX2_isOpen, .selects RX2 yX2_isOpen yX2_isOpen, .initialized RX2, .code yX2_isOpen cX2_isOpen 5 (some .boolean), .fieldLink RX2 104 "ShelfStages$Batches" "good" "[I", .fieldLink RX2 21 "ShelfStages$Filling" "rest" "[I", .fieldLink RX2 114 "ShelfStages$Batches" "left" "[I", .fieldLink RX2 41 "ShelfStages$Filling" "least" "I", .methodLink RX2 111 yX2_isBefore, .instanceMethod yX2_isBefore, .selects RX2 yX2_isBefore yX2_isBefore, .code yX2_isBefore cX2_isBefore 5 (some .boolean), .fieldLink RX2 117 "ShelfStages$State" "settings" "[I", .fieldLink RX2 24 "ShelfStages$Filling" "price" "[F"] ++ wsX80 ++ wsX00 ++ wsX20)
def wsX2_chargedPrice : List Cond := .code yX2_chargedPrice cX2_chargedPrice 5 (some .float) :: ([.fieldLink RX2 68 "ShelfStages$State" "goods" "LShelfStages$Goods;", .fieldLink RX2 102 "ShelfStages$Goods" "price" "[I", .fieldLink RX2 35 "ShelfStages$Filling" "orderedGood" "I", .fieldLink RX2 44 "ShelfStages$State" "batches" "LShelfStages$Batches;", .fieldLink RX2 104 "ShelfStages$Batches" "good" "[I", .fieldLink RX2 24 "ShelfStages$Filling" "price" "[F"] ++ wsX80 ++ wsX30 ++ wsX20 ++ wsX00)
def wsX2_takePart : List Cond := .code yX2_takePart cX2_takePart 4 none :: ([.fieldLink RX2 28 "ShelfStages$Filling" "size" "I", .fieldLink RX2 9 "ShelfStages$Filling" "batch" "[I", .fieldLink RX2 15 "ShelfStages$Filling" "units" "[I", .fieldLink RX2 18 "ShelfStages$Filling" "cents" "[I", .fieldLink RX2 21 "ShelfStages$Filling" "rest" "[I", .fieldLink RX2 32 "ShelfStages$Filling" "got" "I", .methodLink RX2 98 yX2_chargedPrice, .instanceMethod yX2_chargedPrice, .selects RX2 yX2_chargedPrice yX2_chargedPrice, .initialized RX2, .code yX2_chargedPrice cX2_chargedPrice 5 (some .float), .fieldLink RX2 68 "ShelfStages$State" "goods" "LShelfStages$Goods;", .fieldLink RX2 102 "ShelfStages$Goods" "price" "[I", .fieldLink RX2 35 "ShelfStages$Filling" "orderedGood" "I", .fieldLink RX2 44 "ShelfStages$State" "batches" "LShelfStages$Batches;", .fieldLink RX2 104 "ShelfStages$Batches" "good" "[I", .fieldLink RX2 24 "ShelfStages$Filling" "price" "[F"] ++ wsX20 ++ wsX80 ++ wsX30 ++ wsX00)
def wsX2_takeFrom_r1 : List Cond := [Cond.fieldLink RX2 32 "ShelfStages$Filling" "got" "I", Cond.fieldLink RX2 38 "ShelfStages$Filling" "wanted" "I", Cond.fieldLink RX2 21 "ShelfStages$Filling" "rest" "[I", Cond.methodLink RX2 89 Lib.Math.min.name, Cond.static Lib.Math.min.name, Cond.initialized "java/lang/Math", Cond.code Lib.Math.min.name Lib.Math.min.code 2 (some .int), Cond.methodLink RX2 85 yX2_nextBatch, Cond.instanceMethod yX2_nextBatch, Cond.selects RX2 yX2_nextBatch yX2_nextBatch, Cond.initialized RX2, Cond.code yX2_nextBatch cX2_nextBatch 5 (some .int), Cond.fieldLink RX2 44 "ShelfStages$State" "batches" "LShelfStages$Batches;", Cond.fieldLink RX2 59 "ShelfStages$Batches" "size" "I", Cond.methodLink RX2 107 yX2_isOpen, Cond.instanceMethod yX2_isOpen, Cond.selects RX2 yX2_isOpen yX2_isOpen, Cond.code yX2_isOpen cX2_isOpen 5 (some .boolean), Cond.fieldLink RX2 104 "ShelfStages$Batches" "good" "[I", Cond.fieldLink RX2 114 "ShelfStages$Batches" "left" "[I", Cond.fieldLink RX2 41 "ShelfStages$Filling" "least" "I", Cond.methodLink RX2 111 yX2_isBefore, Cond.instanceMethod yX2_isBefore, Cond.selects RX2 yX2_isBefore yX2_isBefore]
def wsX2_takeFrom_r2 : List Cond := [Cond.code yX2_isBefore cX2_isBefore 5 (some .boolean), Cond.fieldLink RX2 117 "ShelfStages$State" "settings" "[I", Cond.fieldLink RX2 24 "ShelfStages$Filling" "price" "[F", Cond.methodLink RX2 94 yX2_takePart, Cond.instanceMethod yX2_takePart, Cond.selects RX2 yX2_takePart yX2_takePart, Cond.code yX2_takePart cX2_takePart 4 none, Cond.fieldLink RX2 28 "ShelfStages$Filling" "size" "I", Cond.fieldLink RX2 9 "ShelfStages$Filling" "batch" "[I", Cond.fieldLink RX2 15 "ShelfStages$Filling" "units" "[I", Cond.fieldLink RX2 18 "ShelfStages$Filling" "cents" "[I", Cond.methodLink RX2 98 yX2_chargedPrice, Cond.instanceMethod yX2_chargedPrice, Cond.selects RX2 yX2_chargedPrice yX2_chargedPrice, Cond.code yX2_chargedPrice cX2_chargedPrice 5 (some .float), Cond.fieldLink RX2 68 "ShelfStages$State" "goods" "LShelfStages$Goods;", Cond.fieldLink RX2 102 "ShelfStages$Goods" "price" "[I", Cond.fieldLink RX2 35 "ShelfStages$Filling" "orderedGood" "I"]
def wsX2_takeFrom : List Cond := .code yX2_takeFrom cX2_takeFrom 5 none :: ((wsX2_takeFrom_r1 ++ wsX2_takeFrom_r2) ++ wsX20 ++ wsX80 ++ wsX00 ++ wsX30)
def wsX3_listedAt : List Cond := .code yX3_listedAt cX3_listedAt 3 (some .int) :: ([.fieldLink RX3 21 "ShelfStages$Goods" "list" "[I"] ++ wsX30)
def wsX2_fill_r1 : List Cond := [Cond.fieldLink RX2 28 "ShelfStages$Filling" "size" "I", Cond.fieldLink RX2 32 "ShelfStages$Filling" "got" "I", Cond.fieldLink RX2 35 "ShelfStages$Filling" "orderedGood" "I", Cond.fieldLink RX2 38 "ShelfStages$Filling" "wanted" "I", Cond.fieldLink RX2 41 "ShelfStages$Filling" "least" "I", Cond.fieldLink RX2 44 "ShelfStages$State" "batches" "LShelfStages$Batches;", Cond.fieldLink RX2 50 "ShelfStages$Batches" "shelf" "[I", Cond.fieldLink RX2 21 "ShelfStages$Filling" "rest" "[I", Cond.fieldLink RX2 59 "ShelfStages$Batches" "size" "I", Cond.fieldLink RX2 24 "ShelfStages$Filling" "price" "[F", Cond.fieldLink RX2 68 "ShelfStages$State" "goods" "LShelfStages$Goods;", Cond.fieldLink RX2 72 "ShelfStages$Goods" "listed" "[I", Cond.fieldLink RX2 81 "ShelfStages$Filling" "replaced" "I", Cond.static yX9_copyRow, Cond.initialized RX9, Cond.code yX9_copyRow cX9_copyRow 2 none, Cond.methodLink RX9 357 Lib.Math.min.name, Cond.static Lib.Math.min.name, Cond.initialized "java/lang/Math", Cond.code Lib.Math.min.name Lib.Math.min.code 2 (some .int), Cond.methodLink RX9 362 arraycopyName, Cond.native arraycopyName, Cond.static arraycopyName, Cond.initialized "java/lang/System"]
def wsX2_fill_r2 : List Cond := [Cond.methodLink RX2 60 yX8_priceOfUnit, Cond.instanceMethod yX8_priceOfUnit, Cond.selects RX8 yX8_priceOfUnit yX8_priceOfUnit, Cond.initialized RX8, Cond.code yX8_priceOfUnit cX8_priceOfUnit 3 (some .float), Cond.fieldLink RX8 12 "ShelfStages$State" "goods" "LShelfStages$Goods;", Cond.fieldLink RX8 91 "ShelfStages$Goods" "price" "[I", Cond.fieldLink RX8 21 "ShelfStages$State" "batches" "LShelfStages$Batches;", Cond.fieldLink RX8 84 "ShelfStages$Batches" "good" "[I", Cond.fieldLink RX8 35 "ShelfStages$State" "stages" "LShelfStages$Stages;", Cond.fieldLink RX8 94 "ShelfStages$Stages" "markdown" "[F", Cond.constantFloat RX8 102 (1120403456), Cond.methodLink RX8 98 yX8_stageOf, Cond.instanceMethod yX8_stageOf, Cond.selects RX8 yX8_stageOf yX8_stageOf, Cond.code yX8_stageOf cX8_stageOf 2 (some .int), Cond.fieldLink RX8 78 "ShelfStages$Batches" "left" "[I", Cond.fieldLink RX8 81 "ShelfStages$Goods" "life" "[I", Cond.methodLink RX8 87 yX7_reached, Cond.instanceMethod yX7_reached, Cond.selects RX7 yX7_reached yX7_reached, Cond.initialized RX7, Cond.code yX7_reached cX7_reached 4 (some .int), Cond.fieldLink RX7 9 "ShelfStages$Stages" "share" "[I"]
def wsX2_fill_r3 : List Cond := [Cond.methodLink RX2 64 yX2_takeFrom, Cond.instanceMethod yX2_takeFrom, Cond.selects RX2 yX2_takeFrom yX2_takeFrom, Cond.initialized RX2, Cond.code yX2_takeFrom cX2_takeFrom 5 none, Cond.methodLink RX2 89 Lib.Math.min.name, Cond.methodLink RX2 85 yX2_nextBatch, Cond.instanceMethod yX2_nextBatch, Cond.selects RX2 yX2_nextBatch yX2_nextBatch, Cond.code yX2_nextBatch cX2_nextBatch 5 (some .int), Cond.methodLink RX2 107 yX2_isOpen, Cond.instanceMethod yX2_isOpen, Cond.selects RX2 yX2_isOpen yX2_isOpen, Cond.code yX2_isOpen cX2_isOpen 5 (some .boolean), Cond.fieldLink RX2 104 "ShelfStages$Batches" "good" "[I", Cond.fieldLink RX2 114 "ShelfStages$Batches" "left" "[I", Cond.methodLink RX2 111 yX2_isBefore, Cond.instanceMethod yX2_isBefore, Cond.selects RX2 yX2_isBefore yX2_isBefore, Cond.code yX2_isBefore cX2_isBefore 5 (some .boolean), Cond.fieldLink RX2 117 "ShelfStages$State" "settings" "[I", Cond.methodLink RX2 94 yX2_takePart, Cond.instanceMethod yX2_takePart, Cond.selects RX2 yX2_takePart yX2_takePart]
def wsX2_fill_r4 : List Cond := [Cond.code yX2_takePart cX2_takePart 4 none, Cond.fieldLink RX2 9 "ShelfStages$Filling" "batch" "[I", Cond.fieldLink RX2 15 "ShelfStages$Filling" "units" "[I", Cond.fieldLink RX2 18 "ShelfStages$Filling" "cents" "[I", Cond.methodLink RX2 98 yX2_chargedPrice, Cond.instanceMethod yX2_chargedPrice, Cond.selects RX2 yX2_chargedPrice yX2_chargedPrice, Cond.code yX2_chargedPrice cX2_chargedPrice 5 (some .float), Cond.fieldLink RX2 102 "ShelfStages$Goods" "price" "[I", Cond.methodLink RX2 77 yX3_listedAt, Cond.instanceMethod yX3_listedAt, Cond.selects RX3 yX3_listedAt yX3_listedAt, Cond.initialized RX3, Cond.code yX3_listedAt cX3_listedAt 3 (some .int), Cond.fieldLink RX3 21 "ShelfStages$Goods" "list" "[I"]
def wsX2_fill : List Cond := .code yX2_fill cX2_fill 9 none :: ((wsX2_fill_r1 ++ (wsX2_fill_r2 ++ (wsX2_fill_r3 ++ wsX2_fill_r4))) ++ wsX20 ++ wsX80 ++ wsX00 ++ wsX30 ++ wsX70)
def wsX2_due : List Cond := .code yX2_due cX2_due 4 (some .int) :: ([.fieldLink RX2 28 "ShelfStages$Filling" "size" "I", .fieldLink RX2 18 "ShelfStages$Filling" "cents" "[I", .constantFloat RX2 84 (1120403456)] ++ wsX20)
def wsX3_init : List Cond := .code yX3_init cX3_init 1 none :: ([.methodLink RX3 3 objectInit, .instanceMethod objectInit, .code objectInit ⟨#[0xb1]⟩ 1 none, .arrayClass .int, .fieldLink RX3 9 "ShelfStages$Goods" "price" "[I", .fieldLink RX3 15 "ShelfStages$Goods" "life" "[I", .fieldLink RX3 18 "ShelfStages$Goods" "listed" "[I", .fieldLink RX3 21 "ShelfStages$Goods" "list" "[I"] ++ wsX30)
def wsX3_copyFrom : List Cond := .code yX3_copyFrom cX3_copyFrom 2 none :: ([.fieldLink RX3 24 "ShelfStages$Goods" "size" "I", .fieldLink RX3 9 "ShelfStages$Goods" "price" "[I", .fieldLink RX3 15 "ShelfStages$Goods" "life" "[I", .fieldLink RX3 18 "ShelfStages$Goods" "listed" "[I", .fieldLink RX3 21 "ShelfStages$Goods" "list" "[I", .static yX9_copyRow, .initialized RX9, .code yX9_copyRow cX9_copyRow 2 none, .methodLink RX9 357 Lib.Math.min.name, .static Lib.Math.min.name, .initialized "java/lang/Math", .code Lib.Math.min.name Lib.Math.min.code 2 (some .int), .methodLink RX9 362 arraycopyName, .native arraycopyName, .static arraycopyName, .initialized "java/lang/System"] ++ wsX30)
def wsX3_append : List Cond := .code yX3_append cX3_append 4 (some .int) :: ([.fieldLink RX3 24 "ShelfStages$Goods" "size" "I", .fieldLink RX3 9 "ShelfStages$Goods" "price" "[I", .fieldLink RX3 15 "ShelfStages$Goods" "life" "[I"] ++ wsX30)
def wsX3_lists : List Cond := .code yX3_lists cX3_lists 4 (some .boolean) :: ([.fieldLink RX3 18 "ShelfStages$Goods" "listed" "[I", .methodLink RX3 32 yX3_listedAt, .instanceMethod yX3_listedAt, .selects RX3 yX3_listedAt yX3_listedAt, .initialized RX3, .code yX3_listedAt cX3_listedAt 3 (some .int), .fieldLink RX3 21 "ShelfStages$Goods" "list" "[I"] ++ wsX30)
def wsX3_insert : List Cond := .code yX3_insert cX3_insert 6 none :: ([.fieldLink RX3 18 "ShelfStages$Goods" "listed" "[I", .fieldLink RX3 21 "ShelfStages$Goods" "list" "[I"] ++ wsX30)
def wsX6_init : List Cond := .code yX6_init cX6_init 1 none :: ([.methodLink RX6 3 objectInit, .instanceMethod objectInit, .code objectInit ⟨#[0xb1]⟩ 1 none, .arrayClass .int, .fieldLink RX6 9 "ShelfStages$Orders" "good" "[I", .fieldLink RX6 15 "ShelfStages$Orders" "wanted" "[I", .fieldLink RX6 18 "ShelfStages$Orders" "got" "[I", .fieldLink RX6 21 "ShelfStages$Orders" "replaced" "[I", .fieldLink RX6 24 "ShelfStages$Orders" "least" "[I", .fieldLink RX6 27 "ShelfStages$Orders" "accepts" "[I", .fieldLink RX6 30 "ShelfStages$Orders" "parts" "[I", .fieldLink RX6 33 "ShelfStages$Orders" "due" "[I", .fieldLink RX6 36 "ShelfStages$Orders" "day" "[I", .fieldLink RX6 39 "ShelfStages$Orders" "firstTake" "[I", .fieldLink RX6 42 "ShelfStages$Orders" "takeBatch" "[I", .fieldLink RX6 45 "ShelfStages$Orders" "takeUnits" "[I"] ++ wsX60)
def wsX7_init : List Cond := .code yX7_init cX7_init 1 none :: ([.methodLink RX7 3 objectInit, .instanceMethod objectInit, .code objectInit ⟨#[0xb1]⟩ 1 none, .arrayClass .int, .fieldLink RX7 9 "ShelfStages$Stages" "share" "[I", .arrayClass .float, .constantFloat RX7 15 (1101004800), .constantFloat RX7 16 (1109393408), .constantFloat RX7 17 (1116471296), .fieldLink RX7 18 "ShelfStages$Stages" "markdown" "[F"] ++ wsX70)
def wsX5_init : List Cond := .code yX5_init cX5_init 1 none :: ([.methodLink RX5 3 objectInit, .instanceMethod objectInit, .code objectInit ⟨#[0xb1]⟩ 1 none, .arrayClass .int, .fieldLink RX5 9 "ShelfStages$Log" "kind" "[I", .fieldLink RX5 15 "ShelfStages$Log" "batch" "[I", .fieldLink RX5 18 "ShelfStages$Log" "units" "[I", .fieldLink RX5 21 "ShelfStages$Log" "day" "[I"] ++ wsX50)
def wsX8_init_r1 : List Cond := [Cond.methodLink RX8 3 objectInit, Cond.instanceMethod objectInit, Cond.code objectInit ⟨#[0xb1]⟩ 1 none, Cond.classLink RX8 9 RX3, Cond.instantiable RX3 5, Cond.initialized RX3, Cond.fieldLink RX8 12 "ShelfStages$State" "goods" "LShelfStages$Goods;", Cond.classLink RX8 18 RX0, Cond.instantiable RX0 9, Cond.initialized RX0, Cond.fieldLink RX8 21 "ShelfStages$State" "batches" "LShelfStages$Batches;", Cond.classLink RX8 25 RX6, Cond.instantiable RX6 14, Cond.initialized RX6, Cond.fieldLink RX8 28 "ShelfStages$State" "orders" "LShelfStages$Orders;", Cond.classLink RX8 32 RX7, Cond.instantiable RX7 2, Cond.initialized RX7, Cond.fieldLink RX8 35 "ShelfStages$State" "stages" "LShelfStages$Stages;", Cond.classLink RX8 39 RX5, Cond.instantiable RX5 6, Cond.initialized RX5, Cond.fieldLink RX8 42 "ShelfStages$State" "log" "LShelfStages$Log;", Cond.arrayClass .int]
def wsX8_init_r2 : List Cond := [Cond.fieldLink RX8 46 "ShelfStages$State" "settings" "[I", Cond.instanceMethod yX3_init, Cond.code yX3_init cX3_init 1 none, Cond.methodLink RX3 3 objectInit, Cond.fieldLink RX3 9 "ShelfStages$Goods" "price" "[I", Cond.fieldLink RX3 15 "ShelfStages$Goods" "life" "[I", Cond.fieldLink RX3 18 "ShelfStages$Goods" "listed" "[I", Cond.fieldLink RX3 21 "ShelfStages$Goods" "list" "[I", Cond.instanceMethod yX0_init, Cond.code yX0_init cX0_init 1 none, Cond.methodLink RX0 3 objectInit, Cond.fieldLink RX0 9 "ShelfStages$Batches" "good" "[I", Cond.fieldLink RX0 15 "ShelfStages$Batches" "came" "[I", Cond.fieldLink RX0 18 "ShelfStages$Batches" "left" "[I", Cond.fieldLink RX0 21 "ShelfStages$Batches" "shelf" "[I", Cond.fieldLink RX0 24 "ShelfStages$Batches" "sold" "[I", Cond.fieldLink RX0 27 "ShelfStages$Batches" "given" "[I", Cond.fieldLink RX0 30 "ShelfStages$Batches" "cents" "[I", Cond.classLink RX0 33 "[[I", Cond.fieldLink RX0 35 "ShelfStages$Batches" "wasted" "[[I", Cond.instanceMethod yX6_init, Cond.code yX6_init cX6_init 1 none, Cond.methodLink RX6 3 objectInit, Cond.fieldLink RX6 9 "ShelfStages$Orders" "good" "[I"]
def wsX8_init_r3 : List Cond := [Cond.fieldLink RX6 15 "ShelfStages$Orders" "wanted" "[I", Cond.fieldLink RX6 18 "ShelfStages$Orders" "got" "[I", Cond.fieldLink RX6 21 "ShelfStages$Orders" "replaced" "[I", Cond.fieldLink RX6 24 "ShelfStages$Orders" "least" "[I", Cond.fieldLink RX6 27 "ShelfStages$Orders" "accepts" "[I", Cond.fieldLink RX6 30 "ShelfStages$Orders" "parts" "[I", Cond.fieldLink RX6 33 "ShelfStages$Orders" "due" "[I", Cond.fieldLink RX6 36 "ShelfStages$Orders" "day" "[I", Cond.fieldLink RX6 39 "ShelfStages$Orders" "firstTake" "[I", Cond.fieldLink RX6 42 "ShelfStages$Orders" "takeBatch" "[I", Cond.fieldLink RX6 45 "ShelfStages$Orders" "takeUnits" "[I", Cond.instanceMethod yX7_init, Cond.code yX7_init cX7_init 1 none, Cond.methodLink RX7 3 objectInit, Cond.fieldLink RX7 9 "ShelfStages$Stages" "share" "[I", Cond.arrayClass .float, Cond.constantFloat RX7 15 (1101004800), Cond.constantFloat RX7 16 (1109393408), Cond.constantFloat RX7 17 (1116471296), Cond.fieldLink RX7 18 "ShelfStages$Stages" "markdown" "[F", Cond.instanceMethod yX5_init, Cond.code yX5_init cX5_init 1 none, Cond.methodLink RX5 3 objectInit, Cond.fieldLink RX5 9 "ShelfStages$Log" "kind" "[I"]
def wsX8_init_r4 : List Cond := [Cond.fieldLink RX5 15 "ShelfStages$Log" "batch" "[I", Cond.fieldLink RX5 18 "ShelfStages$Log" "units" "[I", Cond.fieldLink RX5 21 "ShelfStages$Log" "day" "[I"]
def wsX8_init : List Cond := .code yX8_init cX8_init 1 none :: ((wsX8_init_r1 ++ (wsX8_init_r2 ++ (wsX8_init_r3 ++ wsX8_init_r4))) ++ wsX30 ++ wsX80 ++ wsX00 ++ wsX60 ++ wsX70 ++ wsX50)
def wsX4_init_r1 : List Cond := [Cond.methodLink RX4 3 objectInit, Cond.instanceMethod objectInit, Cond.code objectInit ⟨#[0xb1]⟩ 1 none, Cond.classLink RX4 9 RX8, Cond.fieldLink RX4 11 "ShelfStages$History" "states" "[LShelfStages$State;", Cond.instantiable RX8 8, Cond.initialized RX8, Cond.instanceMethod yX8_init, Cond.code yX8_init cX8_init 1 none, Cond.methodLink RX8 3 objectInit, Cond.classLink RX8 9 RX3, Cond.instantiable RX3 5, Cond.initialized RX3, Cond.fieldLink RX8 12 "ShelfStages$State" "goods" "LShelfStages$Goods;", Cond.classLink RX8 18 RX0, Cond.instantiable RX0 9, Cond.initialized RX0, Cond.fieldLink RX8 21 "ShelfStages$State" "batches" "LShelfStages$Batches;", Cond.classLink RX8 25 RX6, Cond.instantiable RX6 14, Cond.initialized RX6, Cond.fieldLink RX8 28 "ShelfStages$State" "orders" "LShelfStages$Orders;", Cond.classLink RX8 32 RX7, Cond.instantiable RX7 2]
def wsX4_init_r2 : List Cond := [Cond.initialized RX7, Cond.fieldLink RX8 35 "ShelfStages$State" "stages" "LShelfStages$Stages;", Cond.classLink RX8 39 RX5, Cond.instantiable RX5 6, Cond.initialized RX5, Cond.fieldLink RX8 42 "ShelfStages$State" "log" "LShelfStages$Log;", Cond.arrayClass .int, Cond.fieldLink RX8 46 "ShelfStages$State" "settings" "[I", Cond.instanceMethod yX3_init, Cond.code yX3_init cX3_init 1 none, Cond.methodLink RX3 3 objectInit, Cond.fieldLink RX3 9 "ShelfStages$Goods" "price" "[I", Cond.fieldLink RX3 15 "ShelfStages$Goods" "life" "[I", Cond.fieldLink RX3 18 "ShelfStages$Goods" "listed" "[I", Cond.fieldLink RX3 21 "ShelfStages$Goods" "list" "[I", Cond.instanceMethod yX0_init, Cond.code yX0_init cX0_init 1 none, Cond.methodLink RX0 3 objectInit, Cond.fieldLink RX0 9 "ShelfStages$Batches" "good" "[I", Cond.fieldLink RX0 15 "ShelfStages$Batches" "came" "[I", Cond.fieldLink RX0 18 "ShelfStages$Batches" "left" "[I", Cond.fieldLink RX0 21 "ShelfStages$Batches" "shelf" "[I", Cond.fieldLink RX0 24 "ShelfStages$Batches" "sold" "[I", Cond.fieldLink RX0 27 "ShelfStages$Batches" "given" "[I"]
def wsX4_init_r3 : List Cond := [Cond.fieldLink RX0 30 "ShelfStages$Batches" "cents" "[I", Cond.classLink RX0 33 "[[I", Cond.fieldLink RX0 35 "ShelfStages$Batches" "wasted" "[[I", Cond.instanceMethod yX6_init, Cond.code yX6_init cX6_init 1 none, Cond.methodLink RX6 3 objectInit, Cond.fieldLink RX6 9 "ShelfStages$Orders" "good" "[I", Cond.fieldLink RX6 15 "ShelfStages$Orders" "wanted" "[I", Cond.fieldLink RX6 18 "ShelfStages$Orders" "got" "[I", Cond.fieldLink RX6 21 "ShelfStages$Orders" "replaced" "[I", Cond.fieldLink RX6 24 "ShelfStages$Orders" "least" "[I", Cond.fieldLink RX6 27 "ShelfStages$Orders" "accepts" "[I", Cond.fieldLink RX6 30 "ShelfStages$Orders" "parts" "[I", Cond.fieldLink RX6 33 "ShelfStages$Orders" "due" "[I", Cond.fieldLink RX6 36 "ShelfStages$Orders" "day" "[I", Cond.fieldLink RX6 39 "ShelfStages$Orders" "firstTake" "[I", Cond.fieldLink RX6 42 "ShelfStages$Orders" "takeBatch" "[I", Cond.fieldLink RX6 45 "ShelfStages$Orders" "takeUnits" "[I", Cond.instanceMethod yX7_init, Cond.code yX7_init cX7_init 1 none, Cond.methodLink RX7 3 objectInit, Cond.fieldLink RX7 9 "ShelfStages$Stages" "share" "[I", Cond.arrayClass .float, Cond.constantFloat RX7 15 (1101004800)]
def wsX4_init_r4 : List Cond := [Cond.constantFloat RX7 16 (1109393408), Cond.constantFloat RX7 17 (1116471296), Cond.fieldLink RX7 18 "ShelfStages$Stages" "markdown" "[F", Cond.instanceMethod yX5_init, Cond.code yX5_init cX5_init 1 none, Cond.methodLink RX5 3 objectInit, Cond.fieldLink RX5 9 "ShelfStages$Log" "kind" "[I", Cond.fieldLink RX5 15 "ShelfStages$Log" "batch" "[I", Cond.fieldLink RX5 18 "ShelfStages$Log" "units" "[I", Cond.fieldLink RX5 21 "ShelfStages$Log" "day" "[I"]
def wsX4_init : List Cond := .code yX4_init cX4_init 2 none :: ((wsX4_init_r1 ++ (wsX4_init_r2 ++ (wsX4_init_r3 ++ wsX4_init_r4))) ++ wsX40 ++ wsX80 ++ wsX30 ++ wsX00 ++ wsX60 ++ wsX70 ++ wsX50)
def wsX6_copyFrom_r1 : List Cond := [Cond.fieldLink RX6 48 "ShelfStages$Orders" "size" "I", Cond.fieldLink RX6 52 "ShelfStages$Orders" "takes" "I", Cond.fieldLink RX6 9 "ShelfStages$Orders" "good" "[I", Cond.fieldLink RX6 15 "ShelfStages$Orders" "wanted" "[I", Cond.fieldLink RX6 18 "ShelfStages$Orders" "got" "[I", Cond.fieldLink RX6 21 "ShelfStages$Orders" "replaced" "[I", Cond.fieldLink RX6 24 "ShelfStages$Orders" "least" "[I", Cond.fieldLink RX6 27 "ShelfStages$Orders" "accepts" "[I", Cond.fieldLink RX6 30 "ShelfStages$Orders" "parts" "[I", Cond.fieldLink RX6 33 "ShelfStages$Orders" "due" "[I", Cond.fieldLink RX6 36 "ShelfStages$Orders" "day" "[I", Cond.fieldLink RX6 39 "ShelfStages$Orders" "firstTake" "[I", Cond.fieldLink RX6 42 "ShelfStages$Orders" "takeBatch" "[I", Cond.fieldLink RX6 45 "ShelfStages$Orders" "takeUnits" "[I", Cond.static yX9_copyRow, Cond.initialized RX9, Cond.code yX9_copyRow cX9_copyRow 2 none, Cond.methodLink RX9 357 Lib.Math.min.name, Cond.static Lib.Math.min.name, Cond.initialized "java/lang/Math", Cond.code Lib.Math.min.name Lib.Math.min.code 2 (some .int), Cond.methodLink RX9 362 arraycopyName, Cond.native arraycopyName, Cond.static arraycopyName]
def wsX6_copyFrom_r2 : List Cond := [Cond.initialized "java/lang/System"]
def wsX6_copyFrom : List Cond := .code yX6_copyFrom cX6_copyFrom 2 none :: ((wsX6_copyFrom_r1 ++ wsX6_copyFrom_r2) ++ wsX60)
def wsX7_copyFrom : List Cond := .code yX7_copyFrom cX7_copyFrom 3 none :: ([.fieldLink RX7 9 "ShelfStages$Stages" "share" "[I", .fieldLink RX7 18 "ShelfStages$Stages" "markdown" "[F"] ++ wsX70)
def wsX5_copyFrom : List Cond := .code yX5_copyFrom cX5_copyFrom 2 none :: ([.fieldLink RX5 24 "ShelfStages$Log" "size" "I", .fieldLink RX5 28 "ShelfStages$Log" "next" "I", .fieldLink RX5 9 "ShelfStages$Log" "kind" "[I", .fieldLink RX5 15 "ShelfStages$Log" "batch" "[I", .fieldLink RX5 18 "ShelfStages$Log" "units" "[I", .fieldLink RX5 21 "ShelfStages$Log" "day" "[I", .static yX9_copyRow, .initialized RX9, .code yX9_copyRow cX9_copyRow 2 none, .methodLink RX9 357 Lib.Math.min.name, .static Lib.Math.min.name, .initialized "java/lang/Math", .code Lib.Math.min.name Lib.Math.min.code 2 (some .int), .methodLink RX9 362 arraycopyName, .native arraycopyName, .static arraycopyName, .initialized "java/lang/System"] ++ wsX50)
def wsX8_copyFrom_r1 : List Cond := [Cond.fieldLink RX8 12 "ShelfStages$State" "goods" "LShelfStages$Goods;", Cond.fieldLink RX8 21 "ShelfStages$State" "batches" "LShelfStages$Batches;", Cond.fieldLink RX8 28 "ShelfStages$State" "orders" "LShelfStages$Orders;", Cond.fieldLink RX8 35 "ShelfStages$State" "stages" "LShelfStages$Stages;", Cond.fieldLink RX8 42 "ShelfStages$State" "log" "LShelfStages$Log;", Cond.fieldLink RX8 46 "ShelfStages$State" "settings" "[I", Cond.fieldLink RX8 70 "ShelfStages$State" "rebate" "F", Cond.fieldLink RX8 74 "ShelfStages$State" "day" "I", Cond.methodLink RX8 50 yX3_copyFrom, Cond.instanceMethod yX3_copyFrom, Cond.selects RX3 yX3_copyFrom yX3_copyFrom, Cond.initialized RX3, Cond.code yX3_copyFrom cX3_copyFrom 2 none, Cond.fieldLink RX3 24 "ShelfStages$Goods" "size" "I", Cond.fieldLink RX3 9 "ShelfStages$Goods" "price" "[I", Cond.fieldLink RX3 15 "ShelfStages$Goods" "life" "[I", Cond.fieldLink RX3 18 "ShelfStages$Goods" "listed" "[I", Cond.fieldLink RX3 21 "ShelfStages$Goods" "list" "[I", Cond.static yX9_copyRow, Cond.initialized RX9, Cond.code yX9_copyRow cX9_copyRow 2 none, Cond.methodLink RX9 357 Lib.Math.min.name, Cond.static Lib.Math.min.name, Cond.initialized "java/lang/Math"]
def wsX8_copyFrom_r2 : List Cond := [Cond.code Lib.Math.min.name Lib.Math.min.code 2 (some .int), Cond.methodLink RX9 362 arraycopyName, Cond.native arraycopyName, Cond.static arraycopyName, Cond.initialized "java/lang/System", Cond.methodLink RX8 54 yX0_copyFrom, Cond.instanceMethod yX0_copyFrom, Cond.selects RX0 yX0_copyFrom yX0_copyFrom, Cond.initialized RX0, Cond.code yX0_copyFrom cX0_copyFrom 3 none, Cond.fieldLink RX0 38 "ShelfStages$Batches" "size" "I", Cond.fieldLink RX0 9 "ShelfStages$Batches" "good" "[I", Cond.fieldLink RX0 15 "ShelfStages$Batches" "came" "[I", Cond.fieldLink RX0 18 "ShelfStages$Batches" "left" "[I", Cond.fieldLink RX0 21 "ShelfStages$Batches" "shelf" "[I", Cond.fieldLink RX0 24 "ShelfStages$Batches" "sold" "[I", Cond.fieldLink RX0 27 "ShelfStages$Batches" "given" "[I", Cond.fieldLink RX0 30 "ShelfStages$Batches" "cents" "[I", Cond.fieldLink RX0 35 "ShelfStages$Batches" "wasted" "[[I", Cond.methodLink RX8 57 yX6_copyFrom, Cond.instanceMethod yX6_copyFrom, Cond.selects RX6 yX6_copyFrom yX6_copyFrom, Cond.initialized RX6, Cond.code yX6_copyFrom cX6_copyFrom 2 none]
def wsX8_copyFrom_r3 : List Cond := [Cond.fieldLink RX6 48 "ShelfStages$Orders" "size" "I", Cond.fieldLink RX6 52 "ShelfStages$Orders" "takes" "I", Cond.fieldLink RX6 9 "ShelfStages$Orders" "good" "[I", Cond.fieldLink RX6 15 "ShelfStages$Orders" "wanted" "[I", Cond.fieldLink RX6 18 "ShelfStages$Orders" "got" "[I", Cond.fieldLink RX6 21 "ShelfStages$Orders" "replaced" "[I", Cond.fieldLink RX6 24 "ShelfStages$Orders" "least" "[I", Cond.fieldLink RX6 27 "ShelfStages$Orders" "accepts" "[I", Cond.fieldLink RX6 30 "ShelfStages$Orders" "parts" "[I", Cond.fieldLink RX6 33 "ShelfStages$Orders" "due" "[I", Cond.fieldLink RX6 36 "ShelfStages$Orders" "day" "[I", Cond.fieldLink RX6 39 "ShelfStages$Orders" "firstTake" "[I", Cond.fieldLink RX6 42 "ShelfStages$Orders" "takeBatch" "[I", Cond.fieldLink RX6 45 "ShelfStages$Orders" "takeUnits" "[I", Cond.methodLink RX8 60 yX7_copyFrom, Cond.instanceMethod yX7_copyFrom, Cond.selects RX7 yX7_copyFrom yX7_copyFrom, Cond.initialized RX7, Cond.code yX7_copyFrom cX7_copyFrom 3 none, Cond.fieldLink RX7 9 "ShelfStages$Stages" "share" "[I", Cond.fieldLink RX7 18 "ShelfStages$Stages" "markdown" "[F", Cond.methodLink RX8 63 yX5_copyFrom, Cond.instanceMethod yX5_copyFrom, Cond.selects RX5 yX5_copyFrom yX5_copyFrom]
def wsX8_copyFrom_r4 : List Cond := [Cond.initialized RX5, Cond.code yX5_copyFrom cX5_copyFrom 2 none, Cond.fieldLink RX5 24 "ShelfStages$Log" "size" "I", Cond.fieldLink RX5 28 "ShelfStages$Log" "next" "I", Cond.fieldLink RX5 9 "ShelfStages$Log" "kind" "[I", Cond.fieldLink RX5 15 "ShelfStages$Log" "batch" "[I", Cond.fieldLink RX5 18 "ShelfStages$Log" "units" "[I", Cond.fieldLink RX5 21 "ShelfStages$Log" "day" "[I"]
def wsX8_copyFrom : List Cond := .code yX8_copyFrom cX8_copyFrom 2 none :: ((wsX8_copyFrom_r1 ++ (wsX8_copyFrom_r2 ++ (wsX8_copyFrom_r3 ++ wsX8_copyFrom_r4))) ++ wsX80 ++ wsX30 ++ wsX00 ++ wsX60 ++ wsX70 ++ wsX50)
def wsX4_push_r1 : List Cond := [Cond.fieldLink RX4 18 "ShelfStages$History" "size" "I", Cond.fieldLink RX4 22 "ShelfStages$History" "oldest" "I", Cond.fieldLink RX4 11 "ShelfStages$History" "states" "[LShelfStages$State;", Cond.methodLink RX4 25 yX8_copyFrom, Cond.instanceMethod yX8_copyFrom, Cond.selects RX8 yX8_copyFrom yX8_copyFrom, Cond.initialized RX8, Cond.code yX8_copyFrom cX8_copyFrom 2 none, Cond.fieldLink RX8 12 "ShelfStages$State" "goods" "LShelfStages$Goods;", Cond.fieldLink RX8 21 "ShelfStages$State" "batches" "LShelfStages$Batches;", Cond.fieldLink RX8 28 "ShelfStages$State" "orders" "LShelfStages$Orders;", Cond.fieldLink RX8 35 "ShelfStages$State" "stages" "LShelfStages$Stages;", Cond.fieldLink RX8 42 "ShelfStages$State" "log" "LShelfStages$Log;", Cond.fieldLink RX8 46 "ShelfStages$State" "settings" "[I", Cond.fieldLink RX8 70 "ShelfStages$State" "rebate" "F", Cond.fieldLink RX8 74 "ShelfStages$State" "day" "I", Cond.methodLink RX8 50 yX3_copyFrom, Cond.instanceMethod yX3_copyFrom, Cond.selects RX3 yX3_copyFrom yX3_copyFrom, Cond.initialized RX3, Cond.code yX3_copyFrom cX3_copyFrom 2 none, Cond.fieldLink RX3 24 "ShelfStages$Goods" "size" "I", Cond.fieldLink RX3 9 "ShelfStages$Goods" "price" "[I", Cond.fieldLink RX3 15 "ShelfStages$Goods" "life" "[I"]
def wsX4_push_r2 : List Cond := [Cond.fieldLink RX3 18 "ShelfStages$Goods" "listed" "[I", Cond.fieldLink RX3 21 "ShelfStages$Goods" "list" "[I", Cond.static yX9_copyRow, Cond.initialized RX9, Cond.code yX9_copyRow cX9_copyRow 2 none, Cond.methodLink RX9 357 Lib.Math.min.name, Cond.static Lib.Math.min.name, Cond.initialized "java/lang/Math", Cond.code Lib.Math.min.name Lib.Math.min.code 2 (some .int), Cond.methodLink RX9 362 arraycopyName, Cond.native arraycopyName, Cond.static arraycopyName, Cond.initialized "java/lang/System", Cond.methodLink RX8 54 yX0_copyFrom, Cond.instanceMethod yX0_copyFrom, Cond.selects RX0 yX0_copyFrom yX0_copyFrom, Cond.initialized RX0, Cond.code yX0_copyFrom cX0_copyFrom 3 none, Cond.fieldLink RX0 38 "ShelfStages$Batches" "size" "I", Cond.fieldLink RX0 9 "ShelfStages$Batches" "good" "[I", Cond.fieldLink RX0 15 "ShelfStages$Batches" "came" "[I", Cond.fieldLink RX0 18 "ShelfStages$Batches" "left" "[I", Cond.fieldLink RX0 21 "ShelfStages$Batches" "shelf" "[I", Cond.fieldLink RX0 24 "ShelfStages$Batches" "sold" "[I"]
def wsX4_push_r3 : List Cond := [Cond.fieldLink RX0 27 "ShelfStages$Batches" "given" "[I", Cond.fieldLink RX0 30 "ShelfStages$Batches" "cents" "[I", Cond.fieldLink RX0 35 "ShelfStages$Batches" "wasted" "[[I", Cond.methodLink RX8 57 yX6_copyFrom, Cond.instanceMethod yX6_copyFrom, Cond.selects RX6 yX6_copyFrom yX6_copyFrom, Cond.initialized RX6, Cond.code yX6_copyFrom cX6_copyFrom 2 none, Cond.fieldLink RX6 48 "ShelfStages$Orders" "size" "I", Cond.fieldLink RX6 52 "ShelfStages$Orders" "takes" "I", Cond.fieldLink RX6 9 "ShelfStages$Orders" "good" "[I", Cond.fieldLink RX6 15 "ShelfStages$Orders" "wanted" "[I", Cond.fieldLink RX6 18 "ShelfStages$Orders" "got" "[I", Cond.fieldLink RX6 21 "ShelfStages$Orders" "replaced" "[I", Cond.fieldLink RX6 24 "ShelfStages$Orders" "least" "[I", Cond.fieldLink RX6 27 "ShelfStages$Orders" "accepts" "[I", Cond.fieldLink RX6 30 "ShelfStages$Orders" "parts" "[I", Cond.fieldLink RX6 33 "ShelfStages$Orders" "due" "[I", Cond.fieldLink RX6 36 "ShelfStages$Orders" "day" "[I", Cond.fieldLink RX6 39 "ShelfStages$Orders" "firstTake" "[I", Cond.fieldLink RX6 42 "ShelfStages$Orders" "takeBatch" "[I", Cond.fieldLink RX6 45 "ShelfStages$Orders" "takeUnits" "[I", Cond.methodLink RX8 60 yX7_copyFrom, Cond.instanceMethod yX7_copyFrom]
def wsX4_push_r4 : List Cond := [Cond.selects RX7 yX7_copyFrom yX7_copyFrom, Cond.initialized RX7, Cond.code yX7_copyFrom cX7_copyFrom 3 none, Cond.fieldLink RX7 9 "ShelfStages$Stages" "share" "[I", Cond.fieldLink RX7 18 "ShelfStages$Stages" "markdown" "[F", Cond.methodLink RX8 63 yX5_copyFrom, Cond.instanceMethod yX5_copyFrom, Cond.selects RX5 yX5_copyFrom yX5_copyFrom, Cond.initialized RX5, Cond.code yX5_copyFrom cX5_copyFrom 2 none, Cond.fieldLink RX5 24 "ShelfStages$Log" "size" "I", Cond.fieldLink RX5 28 "ShelfStages$Log" "next" "I", Cond.fieldLink RX5 9 "ShelfStages$Log" "kind" "[I", Cond.fieldLink RX5 15 "ShelfStages$Log" "batch" "[I", Cond.fieldLink RX5 18 "ShelfStages$Log" "units" "[I", Cond.fieldLink RX5 21 "ShelfStages$Log" "day" "[I"]
def wsX4_push : List Cond := .code yX4_push cX4_push 2 none :: ((wsX4_push_r1 ++ (wsX4_push_r2 ++ (wsX4_push_r3 ++ wsX4_push_r4))) ++ wsX40 ++ wsX80 ++ wsX30 ++ wsX00 ++ wsX60 ++ wsX70 ++ wsX50)
def wsX4_popInto_r1 : List Cond := [Cond.fieldLink RX4 18 "ShelfStages$History" "size" "I", Cond.fieldLink RX4 11 "ShelfStages$History" "states" "[LShelfStages$State;", Cond.fieldLink RX4 22 "ShelfStages$History" "oldest" "I", Cond.methodLink RX4 25 yX8_copyFrom, Cond.instanceMethod yX8_copyFrom, Cond.selects RX8 yX8_copyFrom yX8_copyFrom, Cond.initialized RX8, Cond.code yX8_copyFrom cX8_copyFrom 2 none, Cond.fieldLink RX8 12 "ShelfStages$State" "goods" "LShelfStages$Goods;", Cond.fieldLink RX8 21 "ShelfStages$State" "batches" "LShelfStages$Batches;", Cond.fieldLink RX8 28 "ShelfStages$State" "orders" "LShelfStages$Orders;", Cond.fieldLink RX8 35 "ShelfStages$State" "stages" "LShelfStages$Stages;", Cond.fieldLink RX8 42 "ShelfStages$State" "log" "LShelfStages$Log;", Cond.fieldLink RX8 46 "ShelfStages$State" "settings" "[I", Cond.fieldLink RX8 70 "ShelfStages$State" "rebate" "F", Cond.fieldLink RX8 74 "ShelfStages$State" "day" "I", Cond.methodLink RX8 50 yX3_copyFrom, Cond.instanceMethod yX3_copyFrom, Cond.selects RX3 yX3_copyFrom yX3_copyFrom, Cond.initialized RX3, Cond.code yX3_copyFrom cX3_copyFrom 2 none, Cond.fieldLink RX3 24 "ShelfStages$Goods" "size" "I", Cond.fieldLink RX3 9 "ShelfStages$Goods" "price" "[I", Cond.fieldLink RX3 15 "ShelfStages$Goods" "life" "[I"]
def wsX4_popInto_r2 : List Cond := [Cond.fieldLink RX3 18 "ShelfStages$Goods" "listed" "[I", Cond.fieldLink RX3 21 "ShelfStages$Goods" "list" "[I", Cond.static yX9_copyRow, Cond.initialized RX9, Cond.code yX9_copyRow cX9_copyRow 2 none, Cond.methodLink RX9 357 Lib.Math.min.name, Cond.static Lib.Math.min.name, Cond.initialized "java/lang/Math", Cond.code Lib.Math.min.name Lib.Math.min.code 2 (some .int), Cond.methodLink RX9 362 arraycopyName, Cond.native arraycopyName, Cond.static arraycopyName, Cond.initialized "java/lang/System", Cond.methodLink RX8 54 yX0_copyFrom, Cond.instanceMethod yX0_copyFrom, Cond.selects RX0 yX0_copyFrom yX0_copyFrom, Cond.initialized RX0, Cond.code yX0_copyFrom cX0_copyFrom 3 none, Cond.fieldLink RX0 38 "ShelfStages$Batches" "size" "I", Cond.fieldLink RX0 9 "ShelfStages$Batches" "good" "[I", Cond.fieldLink RX0 15 "ShelfStages$Batches" "came" "[I", Cond.fieldLink RX0 18 "ShelfStages$Batches" "left" "[I", Cond.fieldLink RX0 21 "ShelfStages$Batches" "shelf" "[I", Cond.fieldLink RX0 24 "ShelfStages$Batches" "sold" "[I"]
def wsX4_popInto_r3 : List Cond := [Cond.fieldLink RX0 27 "ShelfStages$Batches" "given" "[I", Cond.fieldLink RX0 30 "ShelfStages$Batches" "cents" "[I", Cond.fieldLink RX0 35 "ShelfStages$Batches" "wasted" "[[I", Cond.methodLink RX8 57 yX6_copyFrom, Cond.instanceMethod yX6_copyFrom, Cond.selects RX6 yX6_copyFrom yX6_copyFrom, Cond.initialized RX6, Cond.code yX6_copyFrom cX6_copyFrom 2 none, Cond.fieldLink RX6 48 "ShelfStages$Orders" "size" "I", Cond.fieldLink RX6 52 "ShelfStages$Orders" "takes" "I", Cond.fieldLink RX6 9 "ShelfStages$Orders" "good" "[I", Cond.fieldLink RX6 15 "ShelfStages$Orders" "wanted" "[I", Cond.fieldLink RX6 18 "ShelfStages$Orders" "got" "[I", Cond.fieldLink RX6 21 "ShelfStages$Orders" "replaced" "[I", Cond.fieldLink RX6 24 "ShelfStages$Orders" "least" "[I", Cond.fieldLink RX6 27 "ShelfStages$Orders" "accepts" "[I", Cond.fieldLink RX6 30 "ShelfStages$Orders" "parts" "[I", Cond.fieldLink RX6 33 "ShelfStages$Orders" "due" "[I", Cond.fieldLink RX6 36 "ShelfStages$Orders" "day" "[I", Cond.fieldLink RX6 39 "ShelfStages$Orders" "firstTake" "[I", Cond.fieldLink RX6 42 "ShelfStages$Orders" "takeBatch" "[I", Cond.fieldLink RX6 45 "ShelfStages$Orders" "takeUnits" "[I", Cond.methodLink RX8 60 yX7_copyFrom, Cond.instanceMethod yX7_copyFrom]
def wsX4_popInto_r4 : List Cond := [Cond.selects RX7 yX7_copyFrom yX7_copyFrom, Cond.initialized RX7, Cond.code yX7_copyFrom cX7_copyFrom 3 none, Cond.fieldLink RX7 9 "ShelfStages$Stages" "share" "[I", Cond.fieldLink RX7 18 "ShelfStages$Stages" "markdown" "[F", Cond.methodLink RX8 63 yX5_copyFrom, Cond.instanceMethod yX5_copyFrom, Cond.selects RX5 yX5_copyFrom yX5_copyFrom, Cond.initialized RX5, Cond.code yX5_copyFrom cX5_copyFrom 2 none, Cond.fieldLink RX5 24 "ShelfStages$Log" "size" "I", Cond.fieldLink RX5 28 "ShelfStages$Log" "next" "I", Cond.fieldLink RX5 9 "ShelfStages$Log" "kind" "[I", Cond.fieldLink RX5 15 "ShelfStages$Log" "batch" "[I", Cond.fieldLink RX5 18 "ShelfStages$Log" "units" "[I", Cond.fieldLink RX5 21 "ShelfStages$Log" "day" "[I"]
def wsX4_popInto : List Cond := .code yX4_popInto cX4_popInto 2 none :: ((wsX4_popInto_r1 ++ (wsX4_popInto_r2 ++ (wsX4_popInto_r3 ++ wsX4_popInto_r4))) ++ wsX40 ++ wsX80 ++ wsX30 ++ wsX00 ++ wsX60 ++ wsX70 ++ wsX50)
def wsX5_append : List Cond := .code yX5_append cX5_append 5 none :: ([.fieldLink RX5 9 "ShelfStages$Log" "kind" "[I", .fieldLink RX5 28 "ShelfStages$Log" "next" "I", .fieldLink RX5 15 "ShelfStages$Log" "batch" "[I", .fieldLink RX5 18 "ShelfStages$Log" "units" "[I", .fieldLink RX5 21 "ShelfStages$Log" "day" "[I", .fieldLink RX5 24 "ShelfStages$Log" "size" "I", .methodLink RX5 35 Lib.Math.min.name, .static Lib.Math.min.name, .initialized "java/lang/Math", .code Lib.Math.min.name Lib.Math.min.code 2 (some .int)] ++ wsX50)
def wsJ9_floorMod_7cf53 : List Cond := .code yJ9_floorMod_7cf53 cJ9_floorMod_7cf53 3 (some .int) :: ([])
def wsX5_placeOf : List Cond := .code yX5_placeOf cX5_placeOf 2 (some .int) :: ([.fieldLink RX5 28 "ShelfStages$Log" "next" "I", .methodLink RX5 41 yJ9_floorMod_7cf53, .static yJ9_floorMod_7cf53, .initialized RJ9, .code yJ9_floorMod_7cf53 cJ9_floorMod_7cf53 3 (some .int)] ++ wsX50)
def wsX6_append : List Cond := .code yX6_append cX6_append 7 none :: ([.fieldLink RX6 48 "ShelfStages$Orders" "size" "I", .fieldLink RX6 9 "ShelfStages$Orders" "good" "[I", .fieldLink RX6 15 "ShelfStages$Orders" "wanted" "[I", .fieldLink RX6 24 "ShelfStages$Orders" "least" "[I", .fieldLink RX6 27 "ShelfStages$Orders" "accepts" "[I", .fieldLink RX6 36 "ShelfStages$Orders" "day" "[I", .fieldLink RX6 39 "ShelfStages$Orders" "firstTake" "[I", .fieldLink RX6 52 "ShelfStages$Orders" "takes" "I"] ++ wsX60)
def wsX6_appendTake : List Cond := .code yX6_appendTake cX6_appendTake 3 none :: ([.fieldLink RX6 48 "ShelfStages$Orders" "size" "I", .fieldLink RX6 52 "ShelfStages$Orders" "takes" "I", .fieldLink RX6 42 "ShelfStages$Orders" "takeBatch" "[I", .fieldLink RX6 45 "ShelfStages$Orders" "takeUnits" "[I", .fieldLink RX6 30 "ShelfStages$Orders" "parts" "[I"] ++ wsX60)
def wsX6_endLast : List Cond := .code yX6_endLast cX6_endLast 4 none :: ([.fieldLink RX6 48 "ShelfStages$Orders" "size" "I", .fieldLink RX6 18 "ShelfStages$Orders" "got" "[I", .fieldLink RX6 21 "ShelfStages$Orders" "replaced" "[I", .fieldLink RX6 33 "ShelfStages$Orders" "due" "[I"] ++ wsX60)
def wsX6_sum : List Cond := .code yX6_sum cX6_sum 4 (some .int) :: ([.fieldLink RX6 48 "ShelfStages$Orders" "size" "I"] ++ wsX60)
def wsX6_gotForGood : List Cond := .code yX6_gotForGood cX6_gotForGood 4 (some .int) :: ([.fieldLink RX6 48 "ShelfStages$Orders" "size" "I", .fieldLink RX6 9 "ShelfStages$Orders" "good" "[I", .fieldLink RX6 18 "ShelfStages$Orders" "got" "[I"] ++ wsX60)
def wsX6_refused : List Cond := .code yX6_refused cX6_refused 3 (some .int) :: ([.fieldLink RX6 48 "ShelfStages$Orders" "size" "I", .fieldLink RX6 18 "ShelfStages$Orders" "got" "[I"] ++ wsX60)
def wsX8_isOnShelfIn : List Cond := .code yX8_isOnShelfIn cX8_isOnShelfIn 3 (some .boolean) :: ([.fieldLink RX8 21 "ShelfStages$State" "batches" "LShelfStages$Batches;", .fieldLink RX8 103 "ShelfStages$Batches" "shelf" "[I", .methodLink RX8 98 yX8_stageOf, .instanceMethod yX8_stageOf, .selects RX8 yX8_stageOf yX8_stageOf, .initialized RX8, .code yX8_stageOf cX8_stageOf 2 (some .int), .fieldLink RX8 35 "ShelfStages$State" "stages" "LShelfStages$Stages;", .fieldLink RX8 78 "ShelfStages$Batches" "left" "[I", .fieldLink RX8 12 "ShelfStages$State" "goods" "LShelfStages$Goods;", .fieldLink RX8 81 "ShelfStages$Goods" "life" "[I", .fieldLink RX8 84 "ShelfStages$Batches" "good" "[I", .methodLink RX8 87 yX7_reached, .instanceMethod yX7_reached, .selects RX7 yX7_reached yX7_reached, .initialized RX7, .code yX7_reached cX7_reached 4 (some .int), .fieldLink RX7 9 "ShelfStages$Stages" "share" "[I"] ++ wsX80 ++ wsX00 ++ wsX30 ++ wsX70)
def wsX8_batchesInStage : List Cond := .code yX8_batchesInStage cX8_batchesInStage 4 (some .int) :: ([.fieldLink RX8 21 "ShelfStages$State" "batches" "LShelfStages$Batches;", .fieldLink RX8 106 "ShelfStages$Batches" "size" "I", .methodLink RX8 109 yX8_isOnShelfIn, .instanceMethod yX8_isOnShelfIn, .selects RX8 yX8_isOnShelfIn yX8_isOnShelfIn, .initialized RX8, .code yX8_isOnShelfIn cX8_isOnShelfIn 3 (some .boolean), .fieldLink RX8 103 "ShelfStages$Batches" "shelf" "[I", .methodLink RX8 98 yX8_stageOf, .instanceMethod yX8_stageOf, .selects RX8 yX8_stageOf yX8_stageOf, .code yX8_stageOf cX8_stageOf 2 (some .int), .fieldLink RX8 35 "ShelfStages$State" "stages" "LShelfStages$Stages;", .fieldLink RX8 78 "ShelfStages$Batches" "left" "[I", .fieldLink RX8 12 "ShelfStages$State" "goods" "LShelfStages$Goods;", .fieldLink RX8 81 "ShelfStages$Goods" "life" "[I", .fieldLink RX8 84 "ShelfStages$Batches" "good" "[I", .methodLink RX8 87 yX7_reached, .instanceMethod yX7_reached, .selects RX7 yX7_reached yX7_reached, .initialized RX7, .code yX7_reached cX7_reached 4 (some .int), .fieldLink RX7 9 "ShelfStages$Stages" "share" "[I"] ++ wsX80 ++ wsX00 ++ wsX30 ++ wsX70)
def wsX8_unitsInStage : List Cond := .code yX8_unitsInStage cX8_unitsInStage 4 (some .int) :: ([.fieldLink RX8 21 "ShelfStages$State" "batches" "LShelfStages$Batches;", .fieldLink RX8 106 "ShelfStages$Batches" "size" "I", .fieldLink RX8 103 "ShelfStages$Batches" "shelf" "[I", .methodLink RX8 109 yX8_isOnShelfIn, .instanceMethod yX8_isOnShelfIn, .selects RX8 yX8_isOnShelfIn yX8_isOnShelfIn, .initialized RX8, .code yX8_isOnShelfIn cX8_isOnShelfIn 3 (some .boolean), .methodLink RX8 98 yX8_stageOf, .instanceMethod yX8_stageOf, .selects RX8 yX8_stageOf yX8_stageOf, .code yX8_stageOf cX8_stageOf 2 (some .int), .fieldLink RX8 35 "ShelfStages$State" "stages" "LShelfStages$Stages;", .fieldLink RX8 78 "ShelfStages$Batches" "left" "[I", .fieldLink RX8 12 "ShelfStages$State" "goods" "LShelfStages$Goods;", .fieldLink RX8 81 "ShelfStages$Goods" "life" "[I", .fieldLink RX8 84 "ShelfStages$Batches" "good" "[I", .methodLink RX8 87 yX7_reached, .instanceMethod yX7_reached, .selects RX7 yX7_reached yX7_reached, .initialized RX7, .code yX7_reached cX7_reached 4 (some .int), .fieldLink RX7 9 "ShelfStages$Stages" "share" "[I"] ++ wsX80 ++ wsX00 ++ wsX30 ++ wsX70)
def wsX8_receive_r1 : List Cond := [Cond.fieldLink RX8 21 "ShelfStages$State" "batches" "LShelfStages$Batches;", Cond.fieldLink RX8 42 "ShelfStages$State" "log" "LShelfStages$Log;", Cond.fieldLink RX8 74 "ShelfStages$State" "day" "I", Cond.methodLink RX8 113 yX0_append, Cond.instanceMethod yX0_append, Cond.selects RX0 yX0_append yX0_append, Cond.initialized RX0, Cond.code yX0_append cX0_append 5 (some .int), Cond.fieldLink RX0 38 "ShelfStages$Batches" "size" "I", Cond.fieldLink RX0 9 "ShelfStages$Batches" "good" "[I", Cond.fieldLink RX0 15 "ShelfStages$Batches" "came" "[I", Cond.fieldLink RX0 18 "ShelfStages$Batches" "left" "[I", Cond.fieldLink RX0 21 "ShelfStages$Batches" "shelf" "[I", Cond.methodLink RX8 117 yX5_append, Cond.instanceMethod yX5_append, Cond.selects RX5 yX5_append yX5_append, Cond.initialized RX5, Cond.code yX5_append cX5_append 5 none, Cond.fieldLink RX5 9 "ShelfStages$Log" "kind" "[I", Cond.fieldLink RX5 28 "ShelfStages$Log" "next" "I", Cond.fieldLink RX5 15 "ShelfStages$Log" "batch" "[I", Cond.fieldLink RX5 18 "ShelfStages$Log" "units" "[I", Cond.fieldLink RX5 21 "ShelfStages$Log" "day" "[I", Cond.fieldLink RX5 24 "ShelfStages$Log" "size" "I"]
def wsX8_receive_r2 : List Cond := [Cond.methodLink RX5 35 Lib.Math.min.name, Cond.static Lib.Math.min.name, Cond.initialized "java/lang/Math", Cond.code Lib.Math.min.name Lib.Math.min.code 2 (some .int)]
def wsX8_receive : List Cond := .code yX8_receive cX8_receive 5 (some .int) :: ((wsX8_receive_r1 ++ wsX8_receive_r2) ++ wsX80 ++ wsX00 ++ wsX50)
def wsX8_sell_r1 : List Cond := [Cond.fieldLink RX8 120 "ShelfStages$Filling" "size" "I", Cond.fieldLink RX8 123 "ShelfStages$Filling" "batch" "[I", Cond.fieldLink RX8 126 "ShelfStages$Filling" "units" "[I", Cond.fieldLink RX8 21 "ShelfStages$State" "batches" "LShelfStages$Batches;", Cond.fieldLink RX8 103 "ShelfStages$Batches" "shelf" "[I", Cond.fieldLink RX8 129 "ShelfStages$Batches" "sold" "[I", Cond.fieldLink RX8 132 "ShelfStages$Batches" "cents" "[I", Cond.fieldLink RX8 135 "ShelfStages$Filling" "cents" "[I", Cond.fieldLink RX8 28 "ShelfStages$State" "orders" "LShelfStages$Orders;", Cond.fieldLink RX8 42 "ShelfStages$State" "log" "LShelfStages$Log;", Cond.fieldLink RX8 74 "ShelfStages$State" "day" "I", Cond.fieldLink RX8 140 "ShelfStages$Filling" "got" "I", Cond.fieldLink RX8 143 "ShelfStages$Filling" "replaced" "I", Cond.fieldLink RX8 70 "ShelfStages$State" "rebate" "F", Cond.methodLink RX8 136 yX6_appendTake, Cond.instanceMethod yX6_appendTake, Cond.selects RX6 yX6_appendTake yX6_appendTake, Cond.initialized RX6, Cond.code yX6_appendTake cX6_appendTake 3 none, Cond.fieldLink RX6 48 "ShelfStages$Orders" "size" "I", Cond.fieldLink RX6 52 "ShelfStages$Orders" "takes" "I", Cond.fieldLink RX6 42 "ShelfStages$Orders" "takeBatch" "[I", Cond.fieldLink RX6 45 "ShelfStages$Orders" "takeUnits" "[I", Cond.fieldLink RX6 30 "ShelfStages$Orders" "parts" "[I"]
def wsX8_sell_r2 : List Cond := [Cond.methodLink RX8 117 yX5_append, Cond.instanceMethod yX5_append, Cond.selects RX5 yX5_append yX5_append, Cond.initialized RX5, Cond.code yX5_append cX5_append 5 none, Cond.fieldLink RX5 9 "ShelfStages$Log" "kind" "[I", Cond.fieldLink RX5 28 "ShelfStages$Log" "next" "I", Cond.fieldLink RX5 15 "ShelfStages$Log" "batch" "[I", Cond.fieldLink RX5 18 "ShelfStages$Log" "units" "[I", Cond.fieldLink RX5 21 "ShelfStages$Log" "day" "[I", Cond.fieldLink RX5 24 "ShelfStages$Log" "size" "I", Cond.methodLink RX5 35 Lib.Math.min.name, Cond.static Lib.Math.min.name, Cond.initialized "java/lang/Math", Cond.code Lib.Math.min.name Lib.Math.min.code 2 (some .int), Cond.methodLink RX8 146 yX2_due, Cond.instanceMethod yX2_due, Cond.selects RX2 yX2_due yX2_due, Cond.initialized RX2, Cond.code yX2_due cX2_due 4 (some .int), Cond.fieldLink RX2 28 "ShelfStages$Filling" "size" "I", Cond.fieldLink RX2 18 "ShelfStages$Filling" "cents" "[I", Cond.constantFloat RX2 84 (1120403456), Cond.methodLink RX8 150 yX6_endLast]
def wsX8_sell_r3 : List Cond := [Cond.instanceMethod yX6_endLast, Cond.selects RX6 yX6_endLast yX6_endLast, Cond.code yX6_endLast cX6_endLast 4 none, Cond.fieldLink RX6 18 "ShelfStages$Orders" "got" "[I", Cond.fieldLink RX6 21 "ShelfStages$Orders" "replaced" "[I", Cond.fieldLink RX6 33 "ShelfStages$Orders" "due" "[I"]
def wsX8_sell : List Cond := .code yX8_sell cX8_sell 5 none :: ((wsX8_sell_r1 ++ (wsX8_sell_r2 ++ wsX8_sell_r3)) ++ wsX20 ++ wsX80 ++ wsX00 ++ wsX60 ++ wsX50)
def wsX8_give : List Cond := .code yX8_give cX8_give 3 none :: ([.fieldLink RX8 21 "ShelfStages$State" "batches" "LShelfStages$Batches;", .fieldLink RX8 103 "ShelfStages$Batches" "shelf" "[I", .fieldLink RX8 154 "ShelfStages$Batches" "given" "[I", .fieldLink RX8 42 "ShelfStages$State" "log" "LShelfStages$Log;", .fieldLink RX8 74 "ShelfStages$State" "day" "I", .methodLink RX8 117 yX5_append, .instanceMethod yX5_append, .selects RX5 yX5_append yX5_append, .initialized RX5, .code yX5_append cX5_append 5 none, .fieldLink RX5 9 "ShelfStages$Log" "kind" "[I", .fieldLink RX5 28 "ShelfStages$Log" "next" "I", .fieldLink RX5 15 "ShelfStages$Log" "batch" "[I", .fieldLink RX5 18 "ShelfStages$Log" "units" "[I", .fieldLink RX5 21 "ShelfStages$Log" "day" "[I", .fieldLink RX5 24 "ShelfStages$Log" "size" "I", .methodLink RX5 35 Lib.Math.min.name, .static Lib.Math.min.name, .initialized "java/lang/Math", .code Lib.Math.min.name Lib.Math.min.code 2 (some .int)] ++ wsX80 ++ wsX00 ++ wsX50)
def wsX8_waste : List Cond := .code yX8_waste cX8_waste 4 none :: ([.fieldLink RX8 21 "ShelfStages$State" "batches" "LShelfStages$Batches;", .fieldLink RX8 103 "ShelfStages$Batches" "shelf" "[I", .fieldLink RX8 157 "ShelfStages$Batches" "wasted" "[[I", .fieldLink RX8 42 "ShelfStages$State" "log" "LShelfStages$Log;", .fieldLink RX8 74 "ShelfStages$State" "day" "I", .methodLink RX8 117 yX5_append, .instanceMethod yX5_append, .selects RX5 yX5_append yX5_append, .initialized RX5, .code yX5_append cX5_append 5 none, .fieldLink RX5 9 "ShelfStages$Log" "kind" "[I", .fieldLink RX5 28 "ShelfStages$Log" "next" "I", .fieldLink RX5 15 "ShelfStages$Log" "batch" "[I", .fieldLink RX5 18 "ShelfStages$Log" "units" "[I", .fieldLink RX5 21 "ShelfStages$Log" "day" "[I", .fieldLink RX5 24 "ShelfStages$Log" "size" "I", .methodLink RX5 35 Lib.Math.min.name, .static Lib.Math.min.name, .initialized "java/lang/Math", .code Lib.Math.min.name Lib.Math.min.code 2 (some .int)] ++ wsX80 ++ wsX00 ++ wsX50)
def wsX8_wasteGood_r1 : List Cond := [Cond.fieldLink RX8 21 "ShelfStages$State" "batches" "LShelfStages$Batches;", Cond.fieldLink RX8 106 "ShelfStages$Batches" "size" "I", Cond.fieldLink RX8 84 "ShelfStages$Batches" "good" "[I", Cond.fieldLink RX8 103 "ShelfStages$Batches" "shelf" "[I", Cond.methodLink RX8 161 yX8_waste, Cond.instanceMethod yX8_waste, Cond.selects RX8 yX8_waste yX8_waste, Cond.initialized RX8, Cond.code yX8_waste cX8_waste 4 none, Cond.fieldLink RX8 157 "ShelfStages$Batches" "wasted" "[[I", Cond.fieldLink RX8 42 "ShelfStages$State" "log" "LShelfStages$Log;", Cond.fieldLink RX8 74 "ShelfStages$State" "day" "I", Cond.methodLink RX8 117 yX5_append, Cond.instanceMethod yX5_append, Cond.selects RX5 yX5_append yX5_append, Cond.initialized RX5, Cond.code yX5_append cX5_append 5 none, Cond.fieldLink RX5 9 "ShelfStages$Log" "kind" "[I", Cond.fieldLink RX5 28 "ShelfStages$Log" "next" "I", Cond.fieldLink RX5 15 "ShelfStages$Log" "batch" "[I", Cond.fieldLink RX5 18 "ShelfStages$Log" "units" "[I", Cond.fieldLink RX5 21 "ShelfStages$Log" "day" "[I", Cond.fieldLink RX5 24 "ShelfStages$Log" "size" "I", Cond.methodLink RX5 35 Lib.Math.min.name]
def wsX8_wasteGood_r2 : List Cond := [Cond.static Lib.Math.min.name, Cond.initialized "java/lang/Math", Cond.code Lib.Math.min.name Lib.Math.min.code 2 (some .int)]
def wsX8_wasteGood : List Cond := .code yX8_wasteGood cX8_wasteGood 3 none :: ((wsX8_wasteGood_r1 ++ wsX8_wasteGood_r2) ++ wsX80 ++ wsX00 ++ wsX50)
def wsX8_expire_r1 : List Cond := [Cond.fieldLink RX8 21 "ShelfStages$State" "batches" "LShelfStages$Batches;", Cond.fieldLink RX8 106 "ShelfStages$Batches" "size" "I", Cond.fieldLink RX8 103 "ShelfStages$Batches" "shelf" "[I", Cond.fieldLink RX8 78 "ShelfStages$Batches" "left" "[I", Cond.methodLink RX8 161 yX8_waste, Cond.instanceMethod yX8_waste, Cond.selects RX8 yX8_waste yX8_waste, Cond.initialized RX8, Cond.code yX8_waste cX8_waste 4 none, Cond.fieldLink RX8 157 "ShelfStages$Batches" "wasted" "[[I", Cond.fieldLink RX8 42 "ShelfStages$State" "log" "LShelfStages$Log;", Cond.fieldLink RX8 74 "ShelfStages$State" "day" "I", Cond.methodLink RX8 117 yX5_append, Cond.instanceMethod yX5_append, Cond.selects RX5 yX5_append yX5_append, Cond.initialized RX5, Cond.code yX5_append cX5_append 5 none, Cond.fieldLink RX5 9 "ShelfStages$Log" "kind" "[I", Cond.fieldLink RX5 28 "ShelfStages$Log" "next" "I", Cond.fieldLink RX5 15 "ShelfStages$Log" "batch" "[I", Cond.fieldLink RX5 18 "ShelfStages$Log" "units" "[I", Cond.fieldLink RX5 21 "ShelfStages$Log" "day" "[I", Cond.fieldLink RX5 24 "ShelfStages$Log" "size" "I", Cond.methodLink RX5 35 Lib.Math.min.name]
def wsX8_expire_r2 : List Cond := [Cond.static Lib.Math.min.name, Cond.initialized "java/lang/Math", Cond.code Lib.Math.min.name Lib.Math.min.code 2 (some .int)]
def wsX8_expire : List Cond := .code yX8_expire cX8_expire 4 (some .int) :: ((wsX8_expire_r1 ++ wsX8_expire_r2) ++ wsX80 ++ wsX00 ++ wsX50)
def wsX8_donate_r1 : List Cond := [Cond.fieldLink RX8 46 "ShelfStages$State" "settings" "[I", Cond.fieldLink RX8 21 "ShelfStages$State" "batches" "LShelfStages$Batches;", Cond.fieldLink RX8 106 "ShelfStages$Batches" "size" "I", Cond.fieldLink RX8 103 "ShelfStages$Batches" "shelf" "[I", Cond.methodLink RX8 174 Lib.Math.min.name, Cond.static Lib.Math.min.name, Cond.initialized "java/lang/Math", Cond.code Lib.Math.min.name Lib.Math.min.code 2 (some .int), Cond.methodLink RX8 98 yX8_stageOf, Cond.instanceMethod yX8_stageOf, Cond.selects RX8 yX8_stageOf yX8_stageOf, Cond.initialized RX8, Cond.code yX8_stageOf cX8_stageOf 2 (some .int), Cond.fieldLink RX8 35 "ShelfStages$State" "stages" "LShelfStages$Stages;", Cond.fieldLink RX8 78 "ShelfStages$Batches" "left" "[I", Cond.fieldLink RX8 12 "ShelfStages$State" "goods" "LShelfStages$Goods;", Cond.fieldLink RX8 81 "ShelfStages$Goods" "life" "[I", Cond.fieldLink RX8 84 "ShelfStages$Batches" "good" "[I", Cond.methodLink RX8 87 yX7_reached, Cond.instanceMethod yX7_reached, Cond.selects RX7 yX7_reached yX7_reached, Cond.initialized RX7, Cond.code yX7_reached cX7_reached 4 (some .int), Cond.fieldLink RX7 9 "ShelfStages$Stages" "share" "[I"]
def wsX8_donate_r2 : List Cond := [Cond.methodLink RX8 179 yX8_give, Cond.instanceMethod yX8_give, Cond.selects RX8 yX8_give yX8_give, Cond.code yX8_give cX8_give 3 none, Cond.fieldLink RX8 154 "ShelfStages$Batches" "given" "[I", Cond.fieldLink RX8 42 "ShelfStages$State" "log" "LShelfStages$Log;", Cond.fieldLink RX8 74 "ShelfStages$State" "day" "I", Cond.methodLink RX8 117 yX5_append, Cond.instanceMethod yX5_append, Cond.selects RX5 yX5_append yX5_append, Cond.initialized RX5, Cond.code yX5_append cX5_append 5 none, Cond.fieldLink RX5 9 "ShelfStages$Log" "kind" "[I", Cond.fieldLink RX5 28 "ShelfStages$Log" "next" "I", Cond.fieldLink RX5 15 "ShelfStages$Log" "batch" "[I", Cond.fieldLink RX5 18 "ShelfStages$Log" "units" "[I", Cond.fieldLink RX5 21 "ShelfStages$Log" "day" "[I", Cond.fieldLink RX5 24 "ShelfStages$Log" "size" "I", Cond.methodLink RX5 35 Lib.Math.min.name]
def wsX8_donate : List Cond := .code yX8_donate cX8_donate 4 none :: ((wsX8_donate_r1 ++ wsX8_donate_r2) ++ wsX80 ++ wsX00 ++ wsX30 ++ wsX70 ++ wsX50)
def wsX8_passDays_r1 : List Cond := [Cond.fieldLink RX8 74 "ShelfStages$State" "day" "I", Cond.fieldLink RX8 21 "ShelfStages$State" "batches" "LShelfStages$Batches;", Cond.methodLink RX8 164 yX0_age, Cond.instanceMethod yX0_age, Cond.selects RX0 yX0_age yX0_age, Cond.initialized RX0, Cond.code yX0_age cX0_age 2 none, Cond.fieldLink RX0 38 "ShelfStages$Batches" "size" "I", Cond.fieldLink RX0 21 "ShelfStages$Batches" "shelf" "[I", Cond.fieldLink RX0 18 "ShelfStages$Batches" "left" "[I", Cond.methodLink RX8 167 yX8_expire, Cond.instanceMethod yX8_expire, Cond.selects RX8 yX8_expire yX8_expire, Cond.initialized RX8, Cond.code yX8_expire cX8_expire 4 (some .int), Cond.fieldLink RX8 106 "ShelfStages$Batches" "size" "I", Cond.fieldLink RX8 103 "ShelfStages$Batches" "shelf" "[I", Cond.fieldLink RX8 78 "ShelfStages$Batches" "left" "[I", Cond.methodLink RX8 161 yX8_waste, Cond.instanceMethod yX8_waste, Cond.selects RX8 yX8_waste yX8_waste, Cond.code yX8_waste cX8_waste 4 none, Cond.fieldLink RX8 157 "ShelfStages$Batches" "wasted" "[[I", Cond.fieldLink RX8 42 "ShelfStages$State" "log" "LShelfStages$Log;"]
def wsX8_passDays_r2 : List Cond := [Cond.methodLink RX8 117 yX5_append, Cond.instanceMethod yX5_append, Cond.selects RX5 yX5_append yX5_append, Cond.initialized RX5, Cond.code yX5_append cX5_append 5 none, Cond.fieldLink RX5 9 "ShelfStages$Log" "kind" "[I", Cond.fieldLink RX5 28 "ShelfStages$Log" "next" "I", Cond.fieldLink RX5 15 "ShelfStages$Log" "batch" "[I", Cond.fieldLink RX5 18 "ShelfStages$Log" "units" "[I", Cond.fieldLink RX5 21 "ShelfStages$Log" "day" "[I", Cond.fieldLink RX5 24 "ShelfStages$Log" "size" "I", Cond.methodLink RX5 35 Lib.Math.min.name, Cond.static Lib.Math.min.name, Cond.initialized "java/lang/Math", Cond.code Lib.Math.min.name Lib.Math.min.code 2 (some .int), Cond.methodLink RX8 171 yX8_donate, Cond.instanceMethod yX8_donate, Cond.selects RX8 yX8_donate yX8_donate, Cond.code yX8_donate cX8_donate 4 none, Cond.fieldLink RX8 46 "ShelfStages$State" "settings" "[I", Cond.methodLink RX8 174 Lib.Math.min.name, Cond.methodLink RX8 98 yX8_stageOf, Cond.instanceMethod yX8_stageOf, Cond.selects RX8 yX8_stageOf yX8_stageOf]
def wsX8_passDays_r3 : List Cond := [Cond.code yX8_stageOf cX8_stageOf 2 (some .int), Cond.fieldLink RX8 35 "ShelfStages$State" "stages" "LShelfStages$Stages;", Cond.fieldLink RX8 12 "ShelfStages$State" "goods" "LShelfStages$Goods;", Cond.fieldLink RX8 81 "ShelfStages$Goods" "life" "[I", Cond.fieldLink RX8 84 "ShelfStages$Batches" "good" "[I", Cond.methodLink RX8 87 yX7_reached, Cond.instanceMethod yX7_reached, Cond.selects RX7 yX7_reached yX7_reached, Cond.initialized RX7, Cond.code yX7_reached cX7_reached 4 (some .int), Cond.fieldLink RX7 9 "ShelfStages$Stages" "share" "[I", Cond.methodLink RX8 179 yX8_give, Cond.instanceMethod yX8_give, Cond.selects RX8 yX8_give yX8_give, Cond.code yX8_give cX8_give 3 none, Cond.fieldLink RX8 154 "ShelfStages$Batches" "given" "[I"]
def wsX8_passDays : List Cond := .code yX8_passDays cX8_passDays 4 (some .int) :: ((wsX8_passDays_r1 ++ (wsX8_passDays_r2 ++ wsX8_passDays_r3)) ++ wsX80 ++ wsX00 ++ wsX50 ++ wsX30 ++ wsX70)
def wsX9_init_r1 : List Cond := [Cond.methodLink RX9 3 objectInit, Cond.instanceMethod objectInit, Cond.code objectInit ⟨#[0xb1]⟩ 1 none, Cond.classLink RX9 9 RX8, Cond.instantiable RX8 8, Cond.initialized RX8, Cond.fieldLink RX9 12 "ShelfStages" "now" "LShelfStages$State;", Cond.fieldLink RX9 16 "ShelfStages" "snapshot" "LShelfStages$State;", Cond.fieldLink RX9 19 "ShelfStages" "trial" "LShelfStages$State;", Cond.classLink RX9 22 RX4, Cond.instantiable RX4 3, Cond.initialized RX4, Cond.fieldLink RX9 25 "ShelfStages" "history" "LShelfStages$History;", Cond.classLink RX9 29 RX2, Cond.instantiable RX2 11, Cond.initialized RX2, Cond.fieldLink RX9 32 "ShelfStages" "filling" "LShelfStages$Filling;", Cond.classLink RX9 36 RX1, Cond.instantiable RX1 4, Cond.initialized RX1, Cond.fieldLink RX9 39 "ShelfStages" "delivery" "LShelfStages$Delivery;", Cond.arrayClass .char, Cond.fieldLink RX9 43 "ShelfStages" "text" "[C", Cond.instanceMethod yX8_init]
def wsX9_init_r2 : List Cond := [Cond.code yX8_init cX8_init 1 none, Cond.methodLink RX8 3 objectInit, Cond.classLink RX8 9 RX3, Cond.instantiable RX3 5, Cond.initialized RX3, Cond.fieldLink RX8 12 "ShelfStages$State" "goods" "LShelfStages$Goods;", Cond.classLink RX8 18 RX0, Cond.instantiable RX0 9, Cond.initialized RX0, Cond.fieldLink RX8 21 "ShelfStages$State" "batches" "LShelfStages$Batches;", Cond.classLink RX8 25 RX6, Cond.instantiable RX6 14, Cond.initialized RX6, Cond.fieldLink RX8 28 "ShelfStages$State" "orders" "LShelfStages$Orders;", Cond.classLink RX8 32 RX7, Cond.instantiable RX7 2, Cond.initialized RX7, Cond.fieldLink RX8 35 "ShelfStages$State" "stages" "LShelfStages$Stages;", Cond.classLink RX8 39 RX5, Cond.instantiable RX5 6, Cond.initialized RX5, Cond.fieldLink RX8 42 "ShelfStages$State" "log" "LShelfStages$Log;", Cond.arrayClass .int, Cond.fieldLink RX8 46 "ShelfStages$State" "settings" "[I"]
def wsX9_init_r3 : List Cond := [Cond.instanceMethod yX3_init, Cond.code yX3_init cX3_init 1 none, Cond.methodLink RX3 3 objectInit, Cond.fieldLink RX3 9 "ShelfStages$Goods" "price" "[I", Cond.fieldLink RX3 15 "ShelfStages$Goods" "life" "[I", Cond.fieldLink RX3 18 "ShelfStages$Goods" "listed" "[I", Cond.fieldLink RX3 21 "ShelfStages$Goods" "list" "[I", Cond.instanceMethod yX0_init, Cond.code yX0_init cX0_init 1 none, Cond.methodLink RX0 3 objectInit, Cond.fieldLink RX0 9 "ShelfStages$Batches" "good" "[I", Cond.fieldLink RX0 15 "ShelfStages$Batches" "came" "[I", Cond.fieldLink RX0 18 "ShelfStages$Batches" "left" "[I", Cond.fieldLink RX0 21 "ShelfStages$Batches" "shelf" "[I", Cond.fieldLink RX0 24 "ShelfStages$Batches" "sold" "[I", Cond.fieldLink RX0 27 "ShelfStages$Batches" "given" "[I", Cond.fieldLink RX0 30 "ShelfStages$Batches" "cents" "[I", Cond.classLink RX0 33 "[[I", Cond.fieldLink RX0 35 "ShelfStages$Batches" "wasted" "[[I", Cond.instanceMethod yX6_init, Cond.code yX6_init cX6_init 1 none, Cond.methodLink RX6 3 objectInit, Cond.fieldLink RX6 9 "ShelfStages$Orders" "good" "[I", Cond.fieldLink RX6 15 "ShelfStages$Orders" "wanted" "[I"]
def wsX9_init_r4 : List Cond := [Cond.fieldLink RX6 18 "ShelfStages$Orders" "got" "[I", Cond.fieldLink RX6 21 "ShelfStages$Orders" "replaced" "[I", Cond.fieldLink RX6 24 "ShelfStages$Orders" "least" "[I", Cond.fieldLink RX6 27 "ShelfStages$Orders" "accepts" "[I", Cond.fieldLink RX6 30 "ShelfStages$Orders" "parts" "[I", Cond.fieldLink RX6 33 "ShelfStages$Orders" "due" "[I", Cond.fieldLink RX6 36 "ShelfStages$Orders" "day" "[I", Cond.fieldLink RX6 39 "ShelfStages$Orders" "firstTake" "[I", Cond.fieldLink RX6 42 "ShelfStages$Orders" "takeBatch" "[I", Cond.fieldLink RX6 45 "ShelfStages$Orders" "takeUnits" "[I", Cond.instanceMethod yX7_init, Cond.code yX7_init cX7_init 1 none, Cond.methodLink RX7 3 objectInit, Cond.fieldLink RX7 9 "ShelfStages$Stages" "share" "[I", Cond.arrayClass .float, Cond.constantFloat RX7 15 (1101004800), Cond.constantFloat RX7 16 (1109393408), Cond.constantFloat RX7 17 (1116471296), Cond.fieldLink RX7 18 "ShelfStages$Stages" "markdown" "[F", Cond.instanceMethod yX5_init, Cond.code yX5_init cX5_init 1 none, Cond.methodLink RX5 3 objectInit, Cond.fieldLink RX5 9 "ShelfStages$Log" "kind" "[I", Cond.fieldLink RX5 15 "ShelfStages$Log" "batch" "[I"]
def wsX9_init_r5 : List Cond := [Cond.fieldLink RX5 18 "ShelfStages$Log" "units" "[I", Cond.fieldLink RX5 21 "ShelfStages$Log" "day" "[I", Cond.methodLink RX9 24 yX4_init, Cond.instanceMethod yX4_init, Cond.code yX4_init cX4_init 2 none, Cond.methodLink RX4 3 objectInit, Cond.classLink RX4 9 RX8, Cond.fieldLink RX4 11 "ShelfStages$History" "states" "[LShelfStages$State;", Cond.instanceMethod yX2_init, Cond.code yX2_init cX2_init 1 none, Cond.methodLink RX2 3 objectInit, Cond.fieldLink RX2 9 "ShelfStages$Filling" "batch" "[I", Cond.fieldLink RX2 15 "ShelfStages$Filling" "units" "[I", Cond.fieldLink RX2 18 "ShelfStages$Filling" "cents" "[I", Cond.fieldLink RX2 21 "ShelfStages$Filling" "rest" "[I", Cond.fieldLink RX2 24 "ShelfStages$Filling" "price" "[F", Cond.instanceMethod yX1_init, Cond.code yX1_init cX1_init 1 none, Cond.methodLink RX1 3 objectInit, Cond.classLink RX1 11 "[[I", Cond.fieldLink RX1 13 "ShelfStages$Delivery" "numbers" "[[I"]
def wsX9_init : List Cond := .code yX9_init cX9_init 1 none :: ((wsX9_init_r1 ++ (wsX9_init_r2 ++ (wsX9_init_r3 ++ (wsX9_init_r4 ++ wsX9_init_r5)))) ++ wsX80 ++ wsX90 ++ wsX40 ++ wsX20 ++ wsX10 ++ wsX30 ++ wsX00 ++ wsX60 ++ wsX70 ++ wsX50)
def wsX9_within : List Cond := .code yX9_within cX9_within 3 (some .boolean) :: ([])
def wsX9_addGood_r1 : List Cond := [Cond.fieldLink RX9 12 "ShelfStages" "now" "LShelfStages$State;", Cond.fieldLink RX9 51 "ShelfStages$State" "goods" "LShelfStages$Goods;", Cond.fieldLink RX9 55 "ShelfStages$Goods" "size" "I", Cond.fieldLink RX9 25 "ShelfStages" "history" "LShelfStages$History;", Cond.methodLink RX9 47 yX9_within, Cond.static yX9_within, Cond.initialized RX9, Cond.code yX9_within cX9_within 3 (some .boolean), Cond.methodLink RX9 61 yX4_push, Cond.instanceMethod yX4_push, Cond.selects RX4 yX4_push yX4_push, Cond.initialized RX4, Cond.code yX4_push cX4_push 2 none, Cond.fieldLink RX4 18 "ShelfStages$History" "size" "I", Cond.fieldLink RX4 22 "ShelfStages$History" "oldest" "I", Cond.fieldLink RX4 11 "ShelfStages$History" "states" "[LShelfStages$State;", Cond.methodLink RX4 25 yX8_copyFrom, Cond.instanceMethod yX8_copyFrom, Cond.selects RX8 yX8_copyFrom yX8_copyFrom, Cond.initialized RX8, Cond.code yX8_copyFrom cX8_copyFrom 2 none, Cond.fieldLink RX8 12 "ShelfStages$State" "goods" "LShelfStages$Goods;", Cond.fieldLink RX8 21 "ShelfStages$State" "batches" "LShelfStages$Batches;", Cond.fieldLink RX8 28 "ShelfStages$State" "orders" "LShelfStages$Orders;"]
def wsX9_addGood_r2 : List Cond := [Cond.fieldLink RX8 35 "ShelfStages$State" "stages" "LShelfStages$Stages;", Cond.fieldLink RX8 42 "ShelfStages$State" "log" "LShelfStages$Log;", Cond.fieldLink RX8 46 "ShelfStages$State" "settings" "[I", Cond.fieldLink RX8 70 "ShelfStages$State" "rebate" "F", Cond.fieldLink RX8 74 "ShelfStages$State" "day" "I", Cond.methodLink RX8 50 yX3_copyFrom, Cond.instanceMethod yX3_copyFrom, Cond.selects RX3 yX3_copyFrom yX3_copyFrom, Cond.initialized RX3, Cond.code yX3_copyFrom cX3_copyFrom 2 none, Cond.fieldLink RX3 24 "ShelfStages$Goods" "size" "I", Cond.fieldLink RX3 9 "ShelfStages$Goods" "price" "[I", Cond.fieldLink RX3 15 "ShelfStages$Goods" "life" "[I", Cond.fieldLink RX3 18 "ShelfStages$Goods" "listed" "[I", Cond.fieldLink RX3 21 "ShelfStages$Goods" "list" "[I", Cond.static yX9_copyRow, Cond.code yX9_copyRow cX9_copyRow 2 none, Cond.methodLink RX9 357 Lib.Math.min.name, Cond.static Lib.Math.min.name, Cond.initialized "java/lang/Math", Cond.code Lib.Math.min.name Lib.Math.min.code 2 (some .int), Cond.methodLink RX9 362 arraycopyName, Cond.native arraycopyName, Cond.static arraycopyName]
def wsX9_addGood_r3 : List Cond := [Cond.initialized "java/lang/System", Cond.methodLink RX8 54 yX0_copyFrom, Cond.instanceMethod yX0_copyFrom, Cond.selects RX0 yX0_copyFrom yX0_copyFrom, Cond.initialized RX0, Cond.code yX0_copyFrom cX0_copyFrom 3 none, Cond.fieldLink RX0 38 "ShelfStages$Batches" "size" "I", Cond.fieldLink RX0 9 "ShelfStages$Batches" "good" "[I", Cond.fieldLink RX0 15 "ShelfStages$Batches" "came" "[I", Cond.fieldLink RX0 18 "ShelfStages$Batches" "left" "[I", Cond.fieldLink RX0 21 "ShelfStages$Batches" "shelf" "[I", Cond.fieldLink RX0 24 "ShelfStages$Batches" "sold" "[I", Cond.fieldLink RX0 27 "ShelfStages$Batches" "given" "[I", Cond.fieldLink RX0 30 "ShelfStages$Batches" "cents" "[I", Cond.fieldLink RX0 35 "ShelfStages$Batches" "wasted" "[[I", Cond.methodLink RX8 57 yX6_copyFrom, Cond.instanceMethod yX6_copyFrom, Cond.selects RX6 yX6_copyFrom yX6_copyFrom, Cond.initialized RX6, Cond.code yX6_copyFrom cX6_copyFrom 2 none, Cond.fieldLink RX6 48 "ShelfStages$Orders" "size" "I", Cond.fieldLink RX6 52 "ShelfStages$Orders" "takes" "I", Cond.fieldLink RX6 9 "ShelfStages$Orders" "good" "[I", Cond.fieldLink RX6 15 "ShelfStages$Orders" "wanted" "[I"]
def wsX9_addGood_r4 : List Cond := [Cond.fieldLink RX6 18 "ShelfStages$Orders" "got" "[I", Cond.fieldLink RX6 21 "ShelfStages$Orders" "replaced" "[I", Cond.fieldLink RX6 24 "ShelfStages$Orders" "least" "[I", Cond.fieldLink RX6 27 "ShelfStages$Orders" "accepts" "[I", Cond.fieldLink RX6 30 "ShelfStages$Orders" "parts" "[I", Cond.fieldLink RX6 33 "ShelfStages$Orders" "due" "[I", Cond.fieldLink RX6 36 "ShelfStages$Orders" "day" "[I", Cond.fieldLink RX6 39 "ShelfStages$Orders" "firstTake" "[I", Cond.fieldLink RX6 42 "ShelfStages$Orders" "takeBatch" "[I", Cond.fieldLink RX6 45 "ShelfStages$Orders" "takeUnits" "[I", Cond.methodLink RX8 60 yX7_copyFrom, Cond.instanceMethod yX7_copyFrom, Cond.selects RX7 yX7_copyFrom yX7_copyFrom, Cond.initialized RX7, Cond.code yX7_copyFrom cX7_copyFrom 3 none, Cond.fieldLink RX7 9 "ShelfStages$Stages" "share" "[I", Cond.fieldLink RX7 18 "ShelfStages$Stages" "markdown" "[F", Cond.methodLink RX8 63 yX5_copyFrom, Cond.instanceMethod yX5_copyFrom, Cond.selects RX5 yX5_copyFrom yX5_copyFrom, Cond.initialized RX5, Cond.code yX5_copyFrom cX5_copyFrom 2 none, Cond.fieldLink RX5 24 "ShelfStages$Log" "size" "I", Cond.fieldLink RX5 28 "ShelfStages$Log" "next" "I"]
def wsX9_addGood_r5 : List Cond := [Cond.fieldLink RX5 9 "ShelfStages$Log" "kind" "[I", Cond.fieldLink RX5 15 "ShelfStages$Log" "batch" "[I", Cond.fieldLink RX5 18 "ShelfStages$Log" "units" "[I", Cond.fieldLink RX5 21 "ShelfStages$Log" "day" "[I", Cond.methodLink RX9 65 yX3_append, Cond.instanceMethod yX3_append, Cond.selects RX3 yX3_append yX3_append, Cond.code yX3_append cX3_append 4 (some .int)]
def wsX9_addGood : List Cond := .code yX9_addGood cX9_addGood 3 (some .int) :: ((wsX9_addGood_r1 ++ (wsX9_addGood_r2 ++ (wsX9_addGood_r3 ++ (wsX9_addGood_r4 ++ wsX9_addGood_r5)))) ++ wsX90 ++ wsX80 ++ wsX30 ++ wsX40 ++ wsX00 ++ wsX60 ++ wsX70 ++ wsX50)
def wsX9_hasGood : List Cond := .code yX9_hasGood cX9_hasGood 2 (some .boolean) :: ([.fieldLink RX9 12 "ShelfStages" "now" "LShelfStages$State;", .fieldLink RX9 51 "ShelfStages$State" "goods" "LShelfStages$Goods;", .fieldLink RX9 55 "ShelfStages$Goods" "size" "I", .methodLink RX9 47 yX9_within, .static yX9_within, .initialized RX9, .code yX9_within cX9_within 3 (some .boolean)] ++ wsX90 ++ wsX80 ++ wsX30)
def wsX9_addSubstitute_r1 : List Cond := [Cond.fieldLink RX9 12 "ShelfStages" "now" "LShelfStages$State;", Cond.fieldLink RX9 51 "ShelfStages$State" "goods" "LShelfStages$Goods;", Cond.fieldLink RX9 77 "ShelfStages$Goods" "listed" "[I", Cond.fieldLink RX9 25 "ShelfStages" "history" "LShelfStages$History;", Cond.methodLink RX9 69 yX9_hasGood, Cond.instanceMethod yX9_hasGood, Cond.selects RX9 yX9_hasGood yX9_hasGood, Cond.initialized RX9, Cond.code yX9_hasGood cX9_hasGood 2 (some .boolean), Cond.fieldLink RX9 55 "ShelfStages$Goods" "size" "I", Cond.methodLink RX9 47 yX9_within, Cond.static yX9_within, Cond.code yX9_within cX9_within 3 (some .boolean), Cond.methodLink RX9 80 yX3_lists, Cond.instanceMethod yX3_lists, Cond.selects RX3 yX3_lists yX3_lists, Cond.initialized RX3, Cond.code yX3_lists cX3_lists 4 (some .boolean), Cond.fieldLink RX3 18 "ShelfStages$Goods" "listed" "[I", Cond.methodLink RX3 32 yX3_listedAt, Cond.instanceMethod yX3_listedAt, Cond.selects RX3 yX3_listedAt yX3_listedAt, Cond.code yX3_listedAt cX3_listedAt 3 (some .int), Cond.fieldLink RX3 21 "ShelfStages$Goods" "list" "[I"]
def wsX9_addSubstitute_r2 : List Cond := [Cond.methodLink RX9 61 yX4_push, Cond.instanceMethod yX4_push, Cond.selects RX4 yX4_push yX4_push, Cond.initialized RX4, Cond.code yX4_push cX4_push 2 none, Cond.fieldLink RX4 18 "ShelfStages$History" "size" "I", Cond.fieldLink RX4 22 "ShelfStages$History" "oldest" "I", Cond.fieldLink RX4 11 "ShelfStages$History" "states" "[LShelfStages$State;", Cond.methodLink RX4 25 yX8_copyFrom, Cond.instanceMethod yX8_copyFrom, Cond.selects RX8 yX8_copyFrom yX8_copyFrom, Cond.initialized RX8, Cond.code yX8_copyFrom cX8_copyFrom 2 none, Cond.fieldLink RX8 12 "ShelfStages$State" "goods" "LShelfStages$Goods;", Cond.fieldLink RX8 21 "ShelfStages$State" "batches" "LShelfStages$Batches;", Cond.fieldLink RX8 28 "ShelfStages$State" "orders" "LShelfStages$Orders;", Cond.fieldLink RX8 35 "ShelfStages$State" "stages" "LShelfStages$Stages;", Cond.fieldLink RX8 42 "ShelfStages$State" "log" "LShelfStages$Log;", Cond.fieldLink RX8 46 "ShelfStages$State" "settings" "[I", Cond.fieldLink RX8 70 "ShelfStages$State" "rebate" "F", Cond.fieldLink RX8 74 "ShelfStages$State" "day" "I", Cond.methodLink RX8 50 yX3_copyFrom, Cond.instanceMethod yX3_copyFrom, Cond.selects RX3 yX3_copyFrom yX3_copyFrom]
def wsX9_addSubstitute_r3 : List Cond := [Cond.code yX3_copyFrom cX3_copyFrom 2 none, Cond.fieldLink RX3 24 "ShelfStages$Goods" "size" "I", Cond.fieldLink RX3 9 "ShelfStages$Goods" "price" "[I", Cond.fieldLink RX3 15 "ShelfStages$Goods" "life" "[I", Cond.static yX9_copyRow, Cond.code yX9_copyRow cX9_copyRow 2 none, Cond.methodLink RX9 357 Lib.Math.min.name, Cond.static Lib.Math.min.name, Cond.initialized "java/lang/Math", Cond.code Lib.Math.min.name Lib.Math.min.code 2 (some .int), Cond.methodLink RX9 362 arraycopyName, Cond.native arraycopyName, Cond.static arraycopyName, Cond.initialized "java/lang/System", Cond.methodLink RX8 54 yX0_copyFrom, Cond.instanceMethod yX0_copyFrom, Cond.selects RX0 yX0_copyFrom yX0_copyFrom, Cond.initialized RX0, Cond.code yX0_copyFrom cX0_copyFrom 3 none, Cond.fieldLink RX0 38 "ShelfStages$Batches" "size" "I", Cond.fieldLink RX0 9 "ShelfStages$Batches" "good" "[I", Cond.fieldLink RX0 15 "ShelfStages$Batches" "came" "[I", Cond.fieldLink RX0 18 "ShelfStages$Batches" "left" "[I", Cond.fieldLink RX0 21 "ShelfStages$Batches" "shelf" "[I"]
def wsX9_addSubstitute_r4 : List Cond := [Cond.fieldLink RX0 24 "ShelfStages$Batches" "sold" "[I", Cond.fieldLink RX0 27 "ShelfStages$Batches" "given" "[I", Cond.fieldLink RX0 30 "ShelfStages$Batches" "cents" "[I", Cond.fieldLink RX0 35 "ShelfStages$Batches" "wasted" "[[I", Cond.methodLink RX8 57 yX6_copyFrom, Cond.instanceMethod yX6_copyFrom, Cond.selects RX6 yX6_copyFrom yX6_copyFrom, Cond.initialized RX6, Cond.code yX6_copyFrom cX6_copyFrom 2 none, Cond.fieldLink RX6 48 "ShelfStages$Orders" "size" "I", Cond.fieldLink RX6 52 "ShelfStages$Orders" "takes" "I", Cond.fieldLink RX6 9 "ShelfStages$Orders" "good" "[I", Cond.fieldLink RX6 15 "ShelfStages$Orders" "wanted" "[I", Cond.fieldLink RX6 18 "ShelfStages$Orders" "got" "[I", Cond.fieldLink RX6 21 "ShelfStages$Orders" "replaced" "[I", Cond.fieldLink RX6 24 "ShelfStages$Orders" "least" "[I", Cond.fieldLink RX6 27 "ShelfStages$Orders" "accepts" "[I", Cond.fieldLink RX6 30 "ShelfStages$Orders" "parts" "[I", Cond.fieldLink RX6 33 "ShelfStages$Orders" "due" "[I", Cond.fieldLink RX6 36 "ShelfStages$Orders" "day" "[I", Cond.fieldLink RX6 39 "ShelfStages$Orders" "firstTake" "[I", Cond.fieldLink RX6 42 "ShelfStages$Orders" "takeBatch" "[I", Cond.fieldLink RX6 45 "ShelfStages$Orders" "takeUnits" "[I", Cond.methodLink RX8 60 yX7_copyFrom]
def wsX9_addSubstitute_r5 : List Cond := [Cond.instanceMethod yX7_copyFrom, Cond.selects RX7 yX7_copyFrom yX7_copyFrom, Cond.initialized RX7, Cond.code yX7_copyFrom cX7_copyFrom 3 none, Cond.fieldLink RX7 9 "ShelfStages$Stages" "share" "[I", Cond.fieldLink RX7 18 "ShelfStages$Stages" "markdown" "[F", Cond.methodLink RX8 63 yX5_copyFrom, Cond.instanceMethod yX5_copyFrom, Cond.selects RX5 yX5_copyFrom yX5_copyFrom, Cond.initialized RX5, Cond.code yX5_copyFrom cX5_copyFrom 2 none, Cond.fieldLink RX5 24 "ShelfStages$Log" "size" "I", Cond.fieldLink RX5 28 "ShelfStages$Log" "next" "I", Cond.fieldLink RX5 9 "ShelfStages$Log" "kind" "[I", Cond.fieldLink RX5 15 "ShelfStages$Log" "batch" "[I", Cond.fieldLink RX5 18 "ShelfStages$Log" "units" "[I", Cond.fieldLink RX5 21 "ShelfStages$Log" "day" "[I", Cond.methodLink RX9 84 yX3_insert, Cond.instanceMethod yX3_insert, Cond.selects RX3 yX3_insert yX3_insert, Cond.code yX3_insert cX3_insert 6 none]
def wsX9_addSubstitute : List Cond := .code yX9_addSubstitute cX9_addSubstitute 5 (some .int) :: ((wsX9_addSubstitute_r1 ++ (wsX9_addSubstitute_r2 ++ (wsX9_addSubstitute_r3 ++ (wsX9_addSubstitute_r4 ++ wsX9_addSubstitute_r5)))) ++ wsX90 ++ wsX80 ++ wsX30 ++ wsX40 ++ wsX00 ++ wsX60 ++ wsX70 ++ wsX50)
def wsX9_isSetting : List Cond := .code yX9_isSetting cX9_isSetting 2 (some .boolean) :: ([.methodLink RX9 47 yX9_within, .static yX9_within, .initialized RX9, .code yX9_within cX9_within 3 (some .boolean)])
def wsX9_set_r1 : List Cond := [Cond.fieldLink RX9 12 "ShelfStages" "now" "LShelfStages$State;", Cond.fieldLink RX9 118 "ShelfStages$State" "settings" "[I", Cond.fieldLink RX9 25 "ShelfStages" "history" "LShelfStages$History;", Cond.methodLink RX9 115 yX9_isSetting, Cond.static yX9_isSetting, Cond.initialized RX9, Cond.code yX9_isSetting cX9_isSetting 2 (some .boolean), Cond.methodLink RX9 47 yX9_within, Cond.static yX9_within, Cond.code yX9_within cX9_within 3 (some .boolean), Cond.methodLink RX9 61 yX4_push, Cond.instanceMethod yX4_push, Cond.selects RX4 yX4_push yX4_push, Cond.initialized RX4, Cond.code yX4_push cX4_push 2 none, Cond.fieldLink RX4 18 "ShelfStages$History" "size" "I", Cond.fieldLink RX4 22 "ShelfStages$History" "oldest" "I", Cond.fieldLink RX4 11 "ShelfStages$History" "states" "[LShelfStages$State;", Cond.methodLink RX4 25 yX8_copyFrom, Cond.instanceMethod yX8_copyFrom, Cond.selects RX8 yX8_copyFrom yX8_copyFrom, Cond.initialized RX8, Cond.code yX8_copyFrom cX8_copyFrom 2 none, Cond.fieldLink RX8 12 "ShelfStages$State" "goods" "LShelfStages$Goods;"]
def wsX9_set_r2 : List Cond := [Cond.fieldLink RX8 21 "ShelfStages$State" "batches" "LShelfStages$Batches;", Cond.fieldLink RX8 28 "ShelfStages$State" "orders" "LShelfStages$Orders;", Cond.fieldLink RX8 35 "ShelfStages$State" "stages" "LShelfStages$Stages;", Cond.fieldLink RX8 42 "ShelfStages$State" "log" "LShelfStages$Log;", Cond.fieldLink RX8 46 "ShelfStages$State" "settings" "[I", Cond.fieldLink RX8 70 "ShelfStages$State" "rebate" "F", Cond.fieldLink RX8 74 "ShelfStages$State" "day" "I", Cond.methodLink RX8 50 yX3_copyFrom, Cond.instanceMethod yX3_copyFrom, Cond.selects RX3 yX3_copyFrom yX3_copyFrom, Cond.initialized RX3, Cond.code yX3_copyFrom cX3_copyFrom 2 none, Cond.fieldLink RX3 24 "ShelfStages$Goods" "size" "I", Cond.fieldLink RX3 9 "ShelfStages$Goods" "price" "[I", Cond.fieldLink RX3 15 "ShelfStages$Goods" "life" "[I", Cond.fieldLink RX3 18 "ShelfStages$Goods" "listed" "[I", Cond.fieldLink RX3 21 "ShelfStages$Goods" "list" "[I", Cond.static yX9_copyRow, Cond.code yX9_copyRow cX9_copyRow 2 none, Cond.methodLink RX9 357 Lib.Math.min.name, Cond.static Lib.Math.min.name, Cond.initialized "java/lang/Math", Cond.code Lib.Math.min.name Lib.Math.min.code 2 (some .int), Cond.methodLink RX9 362 arraycopyName]
def wsX9_set_r3 : List Cond := [Cond.native arraycopyName, Cond.static arraycopyName, Cond.initialized "java/lang/System", Cond.methodLink RX8 54 yX0_copyFrom, Cond.instanceMethod yX0_copyFrom, Cond.selects RX0 yX0_copyFrom yX0_copyFrom, Cond.initialized RX0, Cond.code yX0_copyFrom cX0_copyFrom 3 none, Cond.fieldLink RX0 38 "ShelfStages$Batches" "size" "I", Cond.fieldLink RX0 9 "ShelfStages$Batches" "good" "[I", Cond.fieldLink RX0 15 "ShelfStages$Batches" "came" "[I", Cond.fieldLink RX0 18 "ShelfStages$Batches" "left" "[I", Cond.fieldLink RX0 21 "ShelfStages$Batches" "shelf" "[I", Cond.fieldLink RX0 24 "ShelfStages$Batches" "sold" "[I", Cond.fieldLink RX0 27 "ShelfStages$Batches" "given" "[I", Cond.fieldLink RX0 30 "ShelfStages$Batches" "cents" "[I", Cond.fieldLink RX0 35 "ShelfStages$Batches" "wasted" "[[I", Cond.methodLink RX8 57 yX6_copyFrom, Cond.instanceMethod yX6_copyFrom, Cond.selects RX6 yX6_copyFrom yX6_copyFrom, Cond.initialized RX6, Cond.code yX6_copyFrom cX6_copyFrom 2 none, Cond.fieldLink RX6 48 "ShelfStages$Orders" "size" "I", Cond.fieldLink RX6 52 "ShelfStages$Orders" "takes" "I"]
def wsX9_set_r4 : List Cond := [Cond.fieldLink RX6 9 "ShelfStages$Orders" "good" "[I", Cond.fieldLink RX6 15 "ShelfStages$Orders" "wanted" "[I", Cond.fieldLink RX6 18 "ShelfStages$Orders" "got" "[I", Cond.fieldLink RX6 21 "ShelfStages$Orders" "replaced" "[I", Cond.fieldLink RX6 24 "ShelfStages$Orders" "least" "[I", Cond.fieldLink RX6 27 "ShelfStages$Orders" "accepts" "[I", Cond.fieldLink RX6 30 "ShelfStages$Orders" "parts" "[I", Cond.fieldLink RX6 33 "ShelfStages$Orders" "due" "[I", Cond.fieldLink RX6 36 "ShelfStages$Orders" "day" "[I", Cond.fieldLink RX6 39 "ShelfStages$Orders" "firstTake" "[I", Cond.fieldLink RX6 42 "ShelfStages$Orders" "takeBatch" "[I", Cond.fieldLink RX6 45 "ShelfStages$Orders" "takeUnits" "[I", Cond.methodLink RX8 60 yX7_copyFrom, Cond.instanceMethod yX7_copyFrom, Cond.selects RX7 yX7_copyFrom yX7_copyFrom, Cond.initialized RX7, Cond.code yX7_copyFrom cX7_copyFrom 3 none, Cond.fieldLink RX7 9 "ShelfStages$Stages" "share" "[I", Cond.fieldLink RX7 18 "ShelfStages$Stages" "markdown" "[F", Cond.methodLink RX8 63 yX5_copyFrom, Cond.instanceMethod yX5_copyFrom, Cond.selects RX5 yX5_copyFrom yX5_copyFrom, Cond.initialized RX5, Cond.code yX5_copyFrom cX5_copyFrom 2 none]
def wsX9_set_r5 : List Cond := [Cond.fieldLink RX5 24 "ShelfStages$Log" "size" "I", Cond.fieldLink RX5 28 "ShelfStages$Log" "next" "I", Cond.fieldLink RX5 9 "ShelfStages$Log" "kind" "[I", Cond.fieldLink RX5 15 "ShelfStages$Log" "batch" "[I", Cond.fieldLink RX5 18 "ShelfStages$Log" "units" "[I", Cond.fieldLink RX5 21 "ShelfStages$Log" "day" "[I"]
def wsX9_set : List Cond := .code yX9_set cX9_set 4 (some .int) :: ((wsX9_set_r1 ++ (wsX9_set_r2 ++ (wsX9_set_r3 ++ (wsX9_set_r4 ++ wsX9_set_r5)))) ++ wsX90 ++ wsX80 ++ wsX40 ++ wsX30 ++ wsX00 ++ wsX60 ++ wsX70 ++ wsX50)
def wsX9_floatOfBits : List Cond := .code yX9_floatOfBits cX9_floatOfBits 5 (some .float) :: ([.constant RX9 353 (8388607), .constant RX9 354 (8388608), .constantFloat RX9 355 (1056964608)])
def wsX9_setRebate_r1 : List Cond := [Cond.constant RX9 121 (1106247680), Cond.fieldLink RX9 12 "ShelfStages" "now" "LShelfStages$State;", Cond.fieldLink RX9 122 "ShelfStages$State" "rebate" "F", Cond.fieldLink RX9 25 "ShelfStages" "history" "LShelfStages$History;", Cond.methodLink RX9 47 yX9_within, Cond.static yX9_within, Cond.initialized RX9, Cond.code yX9_within cX9_within 3 (some .boolean), Cond.methodLink RX9 107 yX9_floatOfBits, Cond.static yX9_floatOfBits, Cond.code yX9_floatOfBits cX9_floatOfBits 5 (some .float), Cond.constant RX9 353 (8388607), Cond.constant RX9 354 (8388608), Cond.constantFloat RX9 355 (1056964608), Cond.methodLink RX9 61 yX4_push, Cond.instanceMethod yX4_push, Cond.selects RX4 yX4_push yX4_push, Cond.initialized RX4, Cond.code yX4_push cX4_push 2 none, Cond.fieldLink RX4 18 "ShelfStages$History" "size" "I", Cond.fieldLink RX4 22 "ShelfStages$History" "oldest" "I", Cond.fieldLink RX4 11 "ShelfStages$History" "states" "[LShelfStages$State;", Cond.methodLink RX4 25 yX8_copyFrom, Cond.instanceMethod yX8_copyFrom]
def wsX9_setRebate_r2 : List Cond := [Cond.selects RX8 yX8_copyFrom yX8_copyFrom, Cond.initialized RX8, Cond.code yX8_copyFrom cX8_copyFrom 2 none, Cond.fieldLink RX8 12 "ShelfStages$State" "goods" "LShelfStages$Goods;", Cond.fieldLink RX8 21 "ShelfStages$State" "batches" "LShelfStages$Batches;", Cond.fieldLink RX8 28 "ShelfStages$State" "orders" "LShelfStages$Orders;", Cond.fieldLink RX8 35 "ShelfStages$State" "stages" "LShelfStages$Stages;", Cond.fieldLink RX8 42 "ShelfStages$State" "log" "LShelfStages$Log;", Cond.fieldLink RX8 46 "ShelfStages$State" "settings" "[I", Cond.fieldLink RX8 70 "ShelfStages$State" "rebate" "F", Cond.fieldLink RX8 74 "ShelfStages$State" "day" "I", Cond.methodLink RX8 50 yX3_copyFrom, Cond.instanceMethod yX3_copyFrom, Cond.selects RX3 yX3_copyFrom yX3_copyFrom, Cond.initialized RX3, Cond.code yX3_copyFrom cX3_copyFrom 2 none, Cond.fieldLink RX3 24 "ShelfStages$Goods" "size" "I", Cond.fieldLink RX3 9 "ShelfStages$Goods" "price" "[I", Cond.fieldLink RX3 15 "ShelfStages$Goods" "life" "[I", Cond.fieldLink RX3 18 "ShelfStages$Goods" "listed" "[I", Cond.fieldLink RX3 21 "ShelfStages$Goods" "list" "[I", Cond.static yX9_copyRow, Cond.code yX9_copyRow cX9_copyRow 2 none, Cond.methodLink RX9 357 Lib.Math.min.name]
def wsX9_setRebate_r3 : List Cond := [Cond.static Lib.Math.min.name, Cond.initialized "java/lang/Math", Cond.code Lib.Math.min.name Lib.Math.min.code 2 (some .int), Cond.methodLink RX9 362 arraycopyName, Cond.native arraycopyName, Cond.static arraycopyName, Cond.initialized "java/lang/System", Cond.methodLink RX8 54 yX0_copyFrom, Cond.instanceMethod yX0_copyFrom, Cond.selects RX0 yX0_copyFrom yX0_copyFrom, Cond.initialized RX0, Cond.code yX0_copyFrom cX0_copyFrom 3 none, Cond.fieldLink RX0 38 "ShelfStages$Batches" "size" "I", Cond.fieldLink RX0 9 "ShelfStages$Batches" "good" "[I", Cond.fieldLink RX0 15 "ShelfStages$Batches" "came" "[I", Cond.fieldLink RX0 18 "ShelfStages$Batches" "left" "[I", Cond.fieldLink RX0 21 "ShelfStages$Batches" "shelf" "[I", Cond.fieldLink RX0 24 "ShelfStages$Batches" "sold" "[I", Cond.fieldLink RX0 27 "ShelfStages$Batches" "given" "[I", Cond.fieldLink RX0 30 "ShelfStages$Batches" "cents" "[I", Cond.fieldLink RX0 35 "ShelfStages$Batches" "wasted" "[[I", Cond.methodLink RX8 57 yX6_copyFrom, Cond.instanceMethod yX6_copyFrom, Cond.selects RX6 yX6_copyFrom yX6_copyFrom]
def wsX9_setRebate_r4 : List Cond := [Cond.initialized RX6, Cond.code yX6_copyFrom cX6_copyFrom 2 none, Cond.fieldLink RX6 48 "ShelfStages$Orders" "size" "I", Cond.fieldLink RX6 52 "ShelfStages$Orders" "takes" "I", Cond.fieldLink RX6 9 "ShelfStages$Orders" "good" "[I", Cond.fieldLink RX6 15 "ShelfStages$Orders" "wanted" "[I", Cond.fieldLink RX6 18 "ShelfStages$Orders" "got" "[I", Cond.fieldLink RX6 21 "ShelfStages$Orders" "replaced" "[I", Cond.fieldLink RX6 24 "ShelfStages$Orders" "least" "[I", Cond.fieldLink RX6 27 "ShelfStages$Orders" "accepts" "[I", Cond.fieldLink RX6 30 "ShelfStages$Orders" "parts" "[I", Cond.fieldLink RX6 33 "ShelfStages$Orders" "due" "[I", Cond.fieldLink RX6 36 "ShelfStages$Orders" "day" "[I", Cond.fieldLink RX6 39 "ShelfStages$Orders" "firstTake" "[I", Cond.fieldLink RX6 42 "ShelfStages$Orders" "takeBatch" "[I", Cond.fieldLink RX6 45 "ShelfStages$Orders" "takeUnits" "[I", Cond.methodLink RX8 60 yX7_copyFrom, Cond.instanceMethod yX7_copyFrom, Cond.selects RX7 yX7_copyFrom yX7_copyFrom, Cond.initialized RX7, Cond.code yX7_copyFrom cX7_copyFrom 3 none, Cond.fieldLink RX7 9 "ShelfStages$Stages" "share" "[I", Cond.fieldLink RX7 18 "ShelfStages$Stages" "markdown" "[F", Cond.methodLink RX8 63 yX5_copyFrom]
def wsX9_setRebate_r5 : List Cond := [Cond.instanceMethod yX5_copyFrom, Cond.selects RX5 yX5_copyFrom yX5_copyFrom, Cond.initialized RX5, Cond.code yX5_copyFrom cX5_copyFrom 2 none, Cond.fieldLink RX5 24 "ShelfStages$Log" "size" "I", Cond.fieldLink RX5 28 "ShelfStages$Log" "next" "I", Cond.fieldLink RX5 9 "ShelfStages$Log" "kind" "[I", Cond.fieldLink RX5 15 "ShelfStages$Log" "batch" "[I", Cond.fieldLink RX5 18 "ShelfStages$Log" "units" "[I", Cond.fieldLink RX5 21 "ShelfStages$Log" "day" "[I"]
def wsX9_setRebate : List Cond := .code yX9_setRebate cX9_setRebate 3 (some .int) :: ((wsX9_setRebate_r1 ++ (wsX9_setRebate_r2 ++ (wsX9_setRebate_r3 ++ (wsX9_setRebate_r4 ++ wsX9_setRebate_r5)))) ++ wsX90 ++ wsX80 ++ wsX40 ++ wsX30 ++ wsX00 ++ wsX60 ++ wsX70 ++ wsX50)
def wsX9_isSupply : List Cond := .code yX9_isSupply cX9_isSupply 4 (some .boolean) :: ([.fieldLink RX9 12 "ShelfStages" "now" "LShelfStages$State;", .fieldLink RX9 51 "ShelfStages$State" "goods" "LShelfStages$Goods;", .fieldLink RX9 220 "ShelfStages$Goods" "life" "[I", .methodLink RX9 47 yX9_within, .static yX9_within, .initialized RX9, .code yX9_within cX9_within 3 (some .boolean)] ++ wsX90 ++ wsX80 ++ wsX30)
def wsX9_bring_r1 : List Cond := [Cond.fieldLink RX9 12 "ShelfStages" "now" "LShelfStages$State;", Cond.fieldLink RX9 129 "ShelfStages$State" "batches" "LShelfStages$Batches;", Cond.fieldLink RX9 133 "ShelfStages$Batches" "size" "I", Cond.fieldLink RX9 25 "ShelfStages" "history" "LShelfStages$History;", Cond.methodLink RX9 69 yX9_hasGood, Cond.instanceMethod yX9_hasGood, Cond.selects RX9 yX9_hasGood yX9_hasGood, Cond.initialized RX9, Cond.code yX9_hasGood cX9_hasGood 2 (some .boolean), Cond.fieldLink RX9 51 "ShelfStages$State" "goods" "LShelfStages$Goods;", Cond.fieldLink RX9 55 "ShelfStages$Goods" "size" "I", Cond.methodLink RX9 47 yX9_within, Cond.static yX9_within, Cond.code yX9_within cX9_within 3 (some .boolean), Cond.methodLink RX9 126 yX9_isSupply, Cond.instanceMethod yX9_isSupply, Cond.selects RX9 yX9_isSupply yX9_isSupply, Cond.code yX9_isSupply cX9_isSupply 4 (some .boolean), Cond.fieldLink RX9 220 "ShelfStages$Goods" "life" "[I", Cond.methodLink RX9 61 yX4_push, Cond.instanceMethod yX4_push, Cond.selects RX4 yX4_push yX4_push, Cond.initialized RX4, Cond.code yX4_push cX4_push 2 none]
def wsX9_bring_r2 : List Cond := [Cond.fieldLink RX4 18 "ShelfStages$History" "size" "I", Cond.fieldLink RX4 22 "ShelfStages$History" "oldest" "I", Cond.fieldLink RX4 11 "ShelfStages$History" "states" "[LShelfStages$State;", Cond.methodLink RX4 25 yX8_copyFrom, Cond.instanceMethod yX8_copyFrom, Cond.selects RX8 yX8_copyFrom yX8_copyFrom, Cond.initialized RX8, Cond.code yX8_copyFrom cX8_copyFrom 2 none, Cond.fieldLink RX8 12 "ShelfStages$State" "goods" "LShelfStages$Goods;", Cond.fieldLink RX8 21 "ShelfStages$State" "batches" "LShelfStages$Batches;", Cond.fieldLink RX8 28 "ShelfStages$State" "orders" "LShelfStages$Orders;", Cond.fieldLink RX8 35 "ShelfStages$State" "stages" "LShelfStages$Stages;", Cond.fieldLink RX8 42 "ShelfStages$State" "log" "LShelfStages$Log;", Cond.fieldLink RX8 46 "ShelfStages$State" "settings" "[I", Cond.fieldLink RX8 70 "ShelfStages$State" "rebate" "F", Cond.fieldLink RX8 74 "ShelfStages$State" "day" "I", Cond.methodLink RX8 50 yX3_copyFrom, Cond.instanceMethod yX3_copyFrom, Cond.selects RX3 yX3_copyFrom yX3_copyFrom, Cond.initialized RX3, Cond.code yX3_copyFrom cX3_copyFrom 2 none, Cond.fieldLink RX3 24 "ShelfStages$Goods" "size" "I", Cond.fieldLink RX3 9 "ShelfStages$Goods" "price" "[I", Cond.fieldLink RX3 15 "ShelfStages$Goods" "life" "[I"]
def wsX9_bring_r3 : List Cond := [Cond.fieldLink RX3 18 "ShelfStages$Goods" "listed" "[I", Cond.fieldLink RX3 21 "ShelfStages$Goods" "list" "[I", Cond.static yX9_copyRow, Cond.code yX9_copyRow cX9_copyRow 2 none, Cond.methodLink RX9 357 Lib.Math.min.name, Cond.static Lib.Math.min.name, Cond.initialized "java/lang/Math", Cond.code Lib.Math.min.name Lib.Math.min.code 2 (some .int), Cond.methodLink RX9 362 arraycopyName, Cond.native arraycopyName, Cond.static arraycopyName, Cond.initialized "java/lang/System", Cond.methodLink RX8 54 yX0_copyFrom, Cond.instanceMethod yX0_copyFrom, Cond.selects RX0 yX0_copyFrom yX0_copyFrom, Cond.initialized RX0, Cond.code yX0_copyFrom cX0_copyFrom 3 none, Cond.fieldLink RX0 38 "ShelfStages$Batches" "size" "I", Cond.fieldLink RX0 9 "ShelfStages$Batches" "good" "[I", Cond.fieldLink RX0 15 "ShelfStages$Batches" "came" "[I", Cond.fieldLink RX0 18 "ShelfStages$Batches" "left" "[I", Cond.fieldLink RX0 21 "ShelfStages$Batches" "shelf" "[I", Cond.fieldLink RX0 24 "ShelfStages$Batches" "sold" "[I", Cond.fieldLink RX0 27 "ShelfStages$Batches" "given" "[I"]
def wsX9_bring_r4 : List Cond := [Cond.fieldLink RX0 30 "ShelfStages$Batches" "cents" "[I", Cond.fieldLink RX0 35 "ShelfStages$Batches" "wasted" "[[I", Cond.methodLink RX8 57 yX6_copyFrom, Cond.instanceMethod yX6_copyFrom, Cond.selects RX6 yX6_copyFrom yX6_copyFrom, Cond.initialized RX6, Cond.code yX6_copyFrom cX6_copyFrom 2 none, Cond.fieldLink RX6 48 "ShelfStages$Orders" "size" "I", Cond.fieldLink RX6 52 "ShelfStages$Orders" "takes" "I", Cond.fieldLink RX6 9 "ShelfStages$Orders" "good" "[I", Cond.fieldLink RX6 15 "ShelfStages$Orders" "wanted" "[I", Cond.fieldLink RX6 18 "ShelfStages$Orders" "got" "[I", Cond.fieldLink RX6 21 "ShelfStages$Orders" "replaced" "[I", Cond.fieldLink RX6 24 "ShelfStages$Orders" "least" "[I", Cond.fieldLink RX6 27 "ShelfStages$Orders" "accepts" "[I", Cond.fieldLink RX6 30 "ShelfStages$Orders" "parts" "[I", Cond.fieldLink RX6 33 "ShelfStages$Orders" "due" "[I", Cond.fieldLink RX6 36 "ShelfStages$Orders" "day" "[I", Cond.fieldLink RX6 39 "ShelfStages$Orders" "firstTake" "[I", Cond.fieldLink RX6 42 "ShelfStages$Orders" "takeBatch" "[I", Cond.fieldLink RX6 45 "ShelfStages$Orders" "takeUnits" "[I", Cond.methodLink RX8 60 yX7_copyFrom, Cond.instanceMethod yX7_copyFrom, Cond.selects RX7 yX7_copyFrom yX7_copyFrom]
def wsX9_bring_r5 : List Cond := [Cond.initialized RX7, Cond.code yX7_copyFrom cX7_copyFrom 3 none, Cond.fieldLink RX7 9 "ShelfStages$Stages" "share" "[I", Cond.fieldLink RX7 18 "ShelfStages$Stages" "markdown" "[F", Cond.methodLink RX8 63 yX5_copyFrom, Cond.instanceMethod yX5_copyFrom, Cond.selects RX5 yX5_copyFrom yX5_copyFrom, Cond.initialized RX5, Cond.code yX5_copyFrom cX5_copyFrom 2 none, Cond.fieldLink RX5 24 "ShelfStages$Log" "size" "I", Cond.fieldLink RX5 28 "ShelfStages$Log" "next" "I", Cond.fieldLink RX5 9 "ShelfStages$Log" "kind" "[I", Cond.fieldLink RX5 15 "ShelfStages$Log" "batch" "[I", Cond.fieldLink RX5 18 "ShelfStages$Log" "units" "[I", Cond.fieldLink RX5 21 "ShelfStages$Log" "day" "[I", Cond.methodLink RX9 136 yX8_receive, Cond.instanceMethod yX8_receive, Cond.selects RX8 yX8_receive yX8_receive, Cond.code yX8_receive cX8_receive 5 (some .int), Cond.methodLink RX8 113 yX0_append, Cond.instanceMethod yX0_append, Cond.selects RX0 yX0_append yX0_append, Cond.code yX0_append cX0_append 5 (some .int), Cond.methodLink RX8 117 yX5_append]
def wsX9_bring_r6 : List Cond := [Cond.instanceMethod yX5_append, Cond.selects RX5 yX5_append yX5_append, Cond.code yX5_append cX5_append 5 none, Cond.methodLink RX5 35 Lib.Math.min.name]
def wsX9_bring : List Cond := .code yX9_bring cX9_bring 4 (some .int) :: ((wsX9_bring_r1 ++ (wsX9_bring_r2 ++ (wsX9_bring_r3 ++ (wsX9_bring_r4 ++ (wsX9_bring_r5 ++ wsX9_bring_r6))))) ++ wsX90 ++ wsX80 ++ wsX00 ++ wsX30 ++ wsX40 ++ wsX60 ++ wsX70 ++ wsX50)
def wsX9_wishError : List Cond := .code yX9_wishError cX9_wishError 5 (some .int) :: ([.methodLink RX9 69 yX9_hasGood, .instanceMethod yX9_hasGood, .selects RX9 yX9_hasGood yX9_hasGood, .initialized RX9, .code yX9_hasGood cX9_hasGood 2 (some .boolean), .fieldLink RX9 12 "ShelfStages" "now" "LShelfStages$State;", .fieldLink RX9 51 "ShelfStages$State" "goods" "LShelfStages$Goods;", .fieldLink RX9 55 "ShelfStages$Goods" "size" "I", .methodLink RX9 47 yX9_within, .static yX9_within, .code yX9_within cX9_within 3 (some .boolean)] ++ wsX90 ++ wsX80 ++ wsX30)
def wsX9_order_r1 : List Cond := [Cond.fieldLink RX9 12 "ShelfStages" "now" "LShelfStages$State;", Cond.fieldLink RX9 165 "ShelfStages$State" "orders" "LShelfStages$Orders;", Cond.fieldLink RX9 169 "ShelfStages$Orders" "size" "I", Cond.fieldLink RX9 25 "ShelfStages" "history" "LShelfStages$History;", Cond.fieldLink RX9 172 "ShelfStages$State" "day" "I", Cond.fieldLink RX9 32 "ShelfStages" "filling" "LShelfStages$Filling;", Cond.fieldLink RX9 186 "ShelfStages$Filling" "got" "I", Cond.methodLink RX9 162 yX9_wishError, Cond.instanceMethod yX9_wishError, Cond.selects RX9 yX9_wishError yX9_wishError, Cond.initialized RX9, Cond.code yX9_wishError cX9_wishError 5 (some .int), Cond.methodLink RX9 69 yX9_hasGood, Cond.instanceMethod yX9_hasGood, Cond.selects RX9 yX9_hasGood yX9_hasGood, Cond.code yX9_hasGood cX9_hasGood 2 (some .boolean), Cond.fieldLink RX9 51 "ShelfStages$State" "goods" "LShelfStages$Goods;", Cond.fieldLink RX9 55 "ShelfStages$Goods" "size" "I", Cond.methodLink RX9 47 yX9_within, Cond.static yX9_within, Cond.code yX9_within cX9_within 3 (some .boolean), Cond.methodLink RX9 61 yX4_push, Cond.instanceMethod yX4_push, Cond.selects RX4 yX4_push yX4_push]
def wsX9_order_r2 : List Cond := [Cond.initialized RX4, Cond.code yX4_push cX4_push 2 none, Cond.fieldLink RX4 18 "ShelfStages$History" "size" "I", Cond.fieldLink RX4 22 "ShelfStages$History" "oldest" "I", Cond.fieldLink RX4 11 "ShelfStages$History" "states" "[LShelfStages$State;", Cond.methodLink RX4 25 yX8_copyFrom, Cond.instanceMethod yX8_copyFrom, Cond.selects RX8 yX8_copyFrom yX8_copyFrom, Cond.initialized RX8, Cond.code yX8_copyFrom cX8_copyFrom 2 none, Cond.fieldLink RX8 12 "ShelfStages$State" "goods" "LShelfStages$Goods;", Cond.fieldLink RX8 21 "ShelfStages$State" "batches" "LShelfStages$Batches;", Cond.fieldLink RX8 28 "ShelfStages$State" "orders" "LShelfStages$Orders;", Cond.fieldLink RX8 35 "ShelfStages$State" "stages" "LShelfStages$Stages;", Cond.fieldLink RX8 42 "ShelfStages$State" "log" "LShelfStages$Log;", Cond.fieldLink RX8 46 "ShelfStages$State" "settings" "[I", Cond.fieldLink RX8 70 "ShelfStages$State" "rebate" "F", Cond.fieldLink RX8 74 "ShelfStages$State" "day" "I", Cond.methodLink RX8 50 yX3_copyFrom, Cond.instanceMethod yX3_copyFrom, Cond.selects RX3 yX3_copyFrom yX3_copyFrom, Cond.initialized RX3, Cond.code yX3_copyFrom cX3_copyFrom 2 none, Cond.fieldLink RX3 24 "ShelfStages$Goods" "size" "I"]
def wsX9_order_r3 : List Cond := [Cond.fieldLink RX3 9 "ShelfStages$Goods" "price" "[I", Cond.fieldLink RX3 15 "ShelfStages$Goods" "life" "[I", Cond.fieldLink RX3 18 "ShelfStages$Goods" "listed" "[I", Cond.fieldLink RX3 21 "ShelfStages$Goods" "list" "[I", Cond.static yX9_copyRow, Cond.code yX9_copyRow cX9_copyRow 2 none, Cond.methodLink RX9 357 Lib.Math.min.name, Cond.static Lib.Math.min.name, Cond.initialized "java/lang/Math", Cond.code Lib.Math.min.name Lib.Math.min.code 2 (some .int), Cond.methodLink RX9 362 arraycopyName, Cond.native arraycopyName, Cond.static arraycopyName, Cond.initialized "java/lang/System", Cond.methodLink RX8 54 yX0_copyFrom, Cond.instanceMethod yX0_copyFrom, Cond.selects RX0 yX0_copyFrom yX0_copyFrom, Cond.initialized RX0, Cond.code yX0_copyFrom cX0_copyFrom 3 none, Cond.fieldLink RX0 38 "ShelfStages$Batches" "size" "I", Cond.fieldLink RX0 9 "ShelfStages$Batches" "good" "[I", Cond.fieldLink RX0 15 "ShelfStages$Batches" "came" "[I", Cond.fieldLink RX0 18 "ShelfStages$Batches" "left" "[I", Cond.fieldLink RX0 21 "ShelfStages$Batches" "shelf" "[I"]
def wsX9_order_r4 : List Cond := [Cond.fieldLink RX0 24 "ShelfStages$Batches" "sold" "[I", Cond.fieldLink RX0 27 "ShelfStages$Batches" "given" "[I", Cond.fieldLink RX0 30 "ShelfStages$Batches" "cents" "[I", Cond.fieldLink RX0 35 "ShelfStages$Batches" "wasted" "[[I", Cond.methodLink RX8 57 yX6_copyFrom, Cond.instanceMethod yX6_copyFrom, Cond.selects RX6 yX6_copyFrom yX6_copyFrom, Cond.initialized RX6, Cond.code yX6_copyFrom cX6_copyFrom 2 none, Cond.fieldLink RX6 48 "ShelfStages$Orders" "size" "I", Cond.fieldLink RX6 52 "ShelfStages$Orders" "takes" "I", Cond.fieldLink RX6 9 "ShelfStages$Orders" "good" "[I", Cond.fieldLink RX6 15 "ShelfStages$Orders" "wanted" "[I", Cond.fieldLink RX6 18 "ShelfStages$Orders" "got" "[I", Cond.fieldLink RX6 21 "ShelfStages$Orders" "replaced" "[I", Cond.fieldLink RX6 24 "ShelfStages$Orders" "least" "[I", Cond.fieldLink RX6 27 "ShelfStages$Orders" "accepts" "[I", Cond.fieldLink RX6 30 "ShelfStages$Orders" "parts" "[I", Cond.fieldLink RX6 33 "ShelfStages$Orders" "due" "[I", Cond.fieldLink RX6 36 "ShelfStages$Orders" "day" "[I", Cond.fieldLink RX6 39 "ShelfStages$Orders" "firstTake" "[I", Cond.fieldLink RX6 42 "ShelfStages$Orders" "takeBatch" "[I", Cond.fieldLink RX6 45 "ShelfStages$Orders" "takeUnits" "[I", Cond.methodLink RX8 60 yX7_copyFrom]
def wsX9_order_r5 : List Cond := [Cond.instanceMethod yX7_copyFrom, Cond.selects RX7 yX7_copyFrom yX7_copyFrom, Cond.initialized RX7, Cond.code yX7_copyFrom cX7_copyFrom 3 none, Cond.fieldLink RX7 9 "ShelfStages$Stages" "share" "[I", Cond.fieldLink RX7 18 "ShelfStages$Stages" "markdown" "[F", Cond.methodLink RX8 63 yX5_copyFrom, Cond.instanceMethod yX5_copyFrom, Cond.selects RX5 yX5_copyFrom yX5_copyFrom, Cond.initialized RX5, Cond.code yX5_copyFrom cX5_copyFrom 2 none, Cond.fieldLink RX5 24 "ShelfStages$Log" "size" "I", Cond.fieldLink RX5 28 "ShelfStages$Log" "next" "I", Cond.fieldLink RX5 9 "ShelfStages$Log" "kind" "[I", Cond.fieldLink RX5 15 "ShelfStages$Log" "batch" "[I", Cond.fieldLink RX5 18 "ShelfStages$Log" "units" "[I", Cond.fieldLink RX5 21 "ShelfStages$Log" "day" "[I", Cond.methodLink RX9 175 yX6_append, Cond.instanceMethod yX6_append, Cond.selects RX6 yX6_append yX6_append, Cond.code yX6_append cX6_append 7 none, Cond.methodLink RX9 178 yX2_fill, Cond.instanceMethod yX2_fill, Cond.selects RX2 yX2_fill yX2_fill]
def wsX9_order_r6 : List Cond := [Cond.initialized RX2, Cond.code yX2_fill cX2_fill 9 none, Cond.fieldLink RX2 28 "ShelfStages$Filling" "size" "I", Cond.fieldLink RX2 32 "ShelfStages$Filling" "got" "I", Cond.fieldLink RX2 35 "ShelfStages$Filling" "orderedGood" "I", Cond.fieldLink RX2 38 "ShelfStages$Filling" "wanted" "I", Cond.fieldLink RX2 41 "ShelfStages$Filling" "least" "I", Cond.fieldLink RX2 44 "ShelfStages$State" "batches" "LShelfStages$Batches;", Cond.fieldLink RX2 50 "ShelfStages$Batches" "shelf" "[I", Cond.fieldLink RX2 21 "ShelfStages$Filling" "rest" "[I", Cond.fieldLink RX2 59 "ShelfStages$Batches" "size" "I", Cond.fieldLink RX2 24 "ShelfStages$Filling" "price" "[F", Cond.fieldLink RX2 68 "ShelfStages$State" "goods" "LShelfStages$Goods;", Cond.fieldLink RX2 72 "ShelfStages$Goods" "listed" "[I", Cond.fieldLink RX2 81 "ShelfStages$Filling" "replaced" "I", Cond.methodLink RX2 60 yX8_priceOfUnit, Cond.instanceMethod yX8_priceOfUnit, Cond.selects RX8 yX8_priceOfUnit yX8_priceOfUnit, Cond.code yX8_priceOfUnit cX8_priceOfUnit 3 (some .float), Cond.fieldLink RX8 91 "ShelfStages$Goods" "price" "[I", Cond.fieldLink RX8 84 "ShelfStages$Batches" "good" "[I", Cond.fieldLink RX8 94 "ShelfStages$Stages" "markdown" "[F", Cond.constantFloat RX8 102 (1120403456), Cond.methodLink RX8 98 yX8_stageOf]
def wsX9_order_r7 : List Cond := [Cond.instanceMethod yX8_stageOf, Cond.selects RX8 yX8_stageOf yX8_stageOf, Cond.code yX8_stageOf cX8_stageOf 2 (some .int), Cond.fieldLink RX8 78 "ShelfStages$Batches" "left" "[I", Cond.fieldLink RX8 81 "ShelfStages$Goods" "life" "[I", Cond.methodLink RX8 87 yX7_reached, Cond.instanceMethod yX7_reached, Cond.selects RX7 yX7_reached yX7_reached, Cond.code yX7_reached cX7_reached 4 (some .int), Cond.methodLink RX2 64 yX2_takeFrom, Cond.instanceMethod yX2_takeFrom, Cond.selects RX2 yX2_takeFrom yX2_takeFrom, Cond.code yX2_takeFrom cX2_takeFrom 5 none, Cond.methodLink RX2 89 Lib.Math.min.name, Cond.methodLink RX2 85 yX2_nextBatch, Cond.instanceMethod yX2_nextBatch, Cond.selects RX2 yX2_nextBatch yX2_nextBatch, Cond.code yX2_nextBatch cX2_nextBatch 5 (some .int), Cond.methodLink RX2 107 yX2_isOpen, Cond.instanceMethod yX2_isOpen, Cond.selects RX2 yX2_isOpen yX2_isOpen, Cond.code yX2_isOpen cX2_isOpen 5 (some .boolean), Cond.fieldLink RX2 104 "ShelfStages$Batches" "good" "[I", Cond.fieldLink RX2 114 "ShelfStages$Batches" "left" "[I"]
def wsX9_order_r8 : List Cond := [Cond.methodLink RX2 111 yX2_isBefore, Cond.instanceMethod yX2_isBefore, Cond.selects RX2 yX2_isBefore yX2_isBefore, Cond.code yX2_isBefore cX2_isBefore 5 (some .boolean), Cond.fieldLink RX2 117 "ShelfStages$State" "settings" "[I", Cond.methodLink RX2 94 yX2_takePart, Cond.instanceMethod yX2_takePart, Cond.selects RX2 yX2_takePart yX2_takePart, Cond.code yX2_takePart cX2_takePart 4 none, Cond.fieldLink RX2 9 "ShelfStages$Filling" "batch" "[I", Cond.fieldLink RX2 15 "ShelfStages$Filling" "units" "[I", Cond.fieldLink RX2 18 "ShelfStages$Filling" "cents" "[I", Cond.methodLink RX2 98 yX2_chargedPrice, Cond.instanceMethod yX2_chargedPrice, Cond.selects RX2 yX2_chargedPrice yX2_chargedPrice, Cond.code yX2_chargedPrice cX2_chargedPrice 5 (some .float), Cond.fieldLink RX2 102 "ShelfStages$Goods" "price" "[I", Cond.methodLink RX2 77 yX3_listedAt, Cond.instanceMethod yX3_listedAt, Cond.selects RX3 yX3_listedAt yX3_listedAt, Cond.code yX3_listedAt cX3_listedAt 3 (some .int), Cond.methodLink RX9 182 yX8_sell, Cond.instanceMethod yX8_sell, Cond.selects RX8 yX8_sell yX8_sell]
def wsX9_order_r9 : List Cond := [Cond.code yX8_sell cX8_sell 5 none, Cond.fieldLink RX8 120 "ShelfStages$Filling" "size" "I", Cond.fieldLink RX8 123 "ShelfStages$Filling" "batch" "[I", Cond.fieldLink RX8 126 "ShelfStages$Filling" "units" "[I", Cond.fieldLink RX8 103 "ShelfStages$Batches" "shelf" "[I", Cond.fieldLink RX8 129 "ShelfStages$Batches" "sold" "[I", Cond.fieldLink RX8 132 "ShelfStages$Batches" "cents" "[I", Cond.fieldLink RX8 135 "ShelfStages$Filling" "cents" "[I", Cond.fieldLink RX8 140 "ShelfStages$Filling" "got" "I", Cond.fieldLink RX8 143 "ShelfStages$Filling" "replaced" "I", Cond.methodLink RX8 136 yX6_appendTake, Cond.instanceMethod yX6_appendTake, Cond.selects RX6 yX6_appendTake yX6_appendTake, Cond.code yX6_appendTake cX6_appendTake 3 none, Cond.methodLink RX8 117 yX5_append, Cond.instanceMethod yX5_append, Cond.selects RX5 yX5_append yX5_append, Cond.code yX5_append cX5_append 5 none, Cond.methodLink RX5 35 Lib.Math.min.name, Cond.methodLink RX8 146 yX2_due, Cond.instanceMethod yX2_due, Cond.selects RX2 yX2_due yX2_due, Cond.code yX2_due cX2_due 4 (some .int), Cond.constantFloat RX2 84 (1120403456)]
def wsX9_order_r10 : List Cond := [Cond.methodLink RX8 150 yX6_endLast, Cond.instanceMethod yX6_endLast, Cond.selects RX6 yX6_endLast yX6_endLast, Cond.code yX6_endLast cX6_endLast 4 none]
def wsX9_order : List Cond := .code yX9_order cX9_order 6 (some .int) :: ((wsX9_order_r1 ++ (wsX9_order_r2 ++ (wsX9_order_r3 ++ (wsX9_order_r4 ++ (wsX9_order_r5 ++ (wsX9_order_r6 ++ (wsX9_order_r7 ++ (wsX9_order_r8 ++ (wsX9_order_r9 ++ wsX9_order_r10))))))))) ++ wsX90 ++ wsX80 ++ wsX60 ++ wsX20 ++ wsX30 ++ wsX40 ++ wsX00 ++ wsX70 ++ wsX50)
def wsX9_recall_r1 : List Cond := [Cond.fieldLink RX9 12 "ShelfStages" "now" "LShelfStages$State;", Cond.fieldLink RX9 129 "ShelfStages$State" "batches" "LShelfStages$Batches;", Cond.fieldLink RX9 192 "ShelfStages$Batches" "shelf" "[I", Cond.fieldLink RX9 25 "ShelfStages" "history" "LShelfStages$History;", Cond.methodLink RX9 69 yX9_hasGood, Cond.instanceMethod yX9_hasGood, Cond.selects RX9 yX9_hasGood yX9_hasGood, Cond.initialized RX9, Cond.code yX9_hasGood cX9_hasGood 2 (some .boolean), Cond.fieldLink RX9 51 "ShelfStages$State" "goods" "LShelfStages$Goods;", Cond.fieldLink RX9 55 "ShelfStages$Goods" "size" "I", Cond.methodLink RX9 47 yX9_within, Cond.static yX9_within, Cond.code yX9_within cX9_within 3 (some .boolean), Cond.methodLink RX9 198 yX0_sumOfGood, Cond.instanceMethod yX0_sumOfGood, Cond.selects RX0 yX0_sumOfGood yX0_sumOfGood, Cond.initialized RX0, Cond.code yX0_sumOfGood cX0_sumOfGood 5 (some .int), Cond.fieldLink RX0 38 "ShelfStages$Batches" "size" "I", Cond.fieldLink RX0 9 "ShelfStages$Batches" "good" "[I", Cond.methodLink RX9 61 yX4_push, Cond.instanceMethod yX4_push, Cond.selects RX4 yX4_push yX4_push]
def wsX9_recall_r2 : List Cond := [Cond.initialized RX4, Cond.code yX4_push cX4_push 2 none, Cond.fieldLink RX4 18 "ShelfStages$History" "size" "I", Cond.fieldLink RX4 22 "ShelfStages$History" "oldest" "I", Cond.fieldLink RX4 11 "ShelfStages$History" "states" "[LShelfStages$State;", Cond.methodLink RX4 25 yX8_copyFrom, Cond.instanceMethod yX8_copyFrom, Cond.selects RX8 yX8_copyFrom yX8_copyFrom, Cond.initialized RX8, Cond.code yX8_copyFrom cX8_copyFrom 2 none, Cond.fieldLink RX8 12 "ShelfStages$State" "goods" "LShelfStages$Goods;", Cond.fieldLink RX8 21 "ShelfStages$State" "batches" "LShelfStages$Batches;", Cond.fieldLink RX8 28 "ShelfStages$State" "orders" "LShelfStages$Orders;", Cond.fieldLink RX8 35 "ShelfStages$State" "stages" "LShelfStages$Stages;", Cond.fieldLink RX8 42 "ShelfStages$State" "log" "LShelfStages$Log;", Cond.fieldLink RX8 46 "ShelfStages$State" "settings" "[I", Cond.fieldLink RX8 70 "ShelfStages$State" "rebate" "F", Cond.fieldLink RX8 74 "ShelfStages$State" "day" "I", Cond.methodLink RX8 50 yX3_copyFrom, Cond.instanceMethod yX3_copyFrom, Cond.selects RX3 yX3_copyFrom yX3_copyFrom, Cond.initialized RX3, Cond.code yX3_copyFrom cX3_copyFrom 2 none, Cond.fieldLink RX3 24 "ShelfStages$Goods" "size" "I"]
def wsX9_recall_r3 : List Cond := [Cond.fieldLink RX3 9 "ShelfStages$Goods" "price" "[I", Cond.fieldLink RX3 15 "ShelfStages$Goods" "life" "[I", Cond.fieldLink RX3 18 "ShelfStages$Goods" "listed" "[I", Cond.fieldLink RX3 21 "ShelfStages$Goods" "list" "[I", Cond.static yX9_copyRow, Cond.code yX9_copyRow cX9_copyRow 2 none, Cond.methodLink RX9 357 Lib.Math.min.name, Cond.static Lib.Math.min.name, Cond.initialized "java/lang/Math", Cond.code Lib.Math.min.name Lib.Math.min.code 2 (some .int), Cond.methodLink RX9 362 arraycopyName, Cond.native arraycopyName, Cond.static arraycopyName, Cond.initialized "java/lang/System", Cond.methodLink RX8 54 yX0_copyFrom, Cond.instanceMethod yX0_copyFrom, Cond.selects RX0 yX0_copyFrom yX0_copyFrom, Cond.code yX0_copyFrom cX0_copyFrom 3 none, Cond.fieldLink RX0 15 "ShelfStages$Batches" "came" "[I", Cond.fieldLink RX0 18 "ShelfStages$Batches" "left" "[I", Cond.fieldLink RX0 21 "ShelfStages$Batches" "shelf" "[I", Cond.fieldLink RX0 24 "ShelfStages$Batches" "sold" "[I", Cond.fieldLink RX0 27 "ShelfStages$Batches" "given" "[I", Cond.fieldLink RX0 30 "ShelfStages$Batches" "cents" "[I"]
def wsX9_recall_r4 : List Cond := [Cond.fieldLink RX0 35 "ShelfStages$Batches" "wasted" "[[I", Cond.methodLink RX8 57 yX6_copyFrom, Cond.instanceMethod yX6_copyFrom, Cond.selects RX6 yX6_copyFrom yX6_copyFrom, Cond.initialized RX6, Cond.code yX6_copyFrom cX6_copyFrom 2 none, Cond.fieldLink RX6 48 "ShelfStages$Orders" "size" "I", Cond.fieldLink RX6 52 "ShelfStages$Orders" "takes" "I", Cond.fieldLink RX6 9 "ShelfStages$Orders" "good" "[I", Cond.fieldLink RX6 15 "ShelfStages$Orders" "wanted" "[I", Cond.fieldLink RX6 18 "ShelfStages$Orders" "got" "[I", Cond.fieldLink RX6 21 "ShelfStages$Orders" "replaced" "[I", Cond.fieldLink RX6 24 "ShelfStages$Orders" "least" "[I", Cond.fieldLink RX6 27 "ShelfStages$Orders" "accepts" "[I", Cond.fieldLink RX6 30 "ShelfStages$Orders" "parts" "[I", Cond.fieldLink RX6 33 "ShelfStages$Orders" "due" "[I", Cond.fieldLink RX6 36 "ShelfStages$Orders" "day" "[I", Cond.fieldLink RX6 39 "ShelfStages$Orders" "firstTake" "[I", Cond.fieldLink RX6 42 "ShelfStages$Orders" "takeBatch" "[I", Cond.fieldLink RX6 45 "ShelfStages$Orders" "takeUnits" "[I", Cond.methodLink RX8 60 yX7_copyFrom, Cond.instanceMethod yX7_copyFrom, Cond.selects RX7 yX7_copyFrom yX7_copyFrom, Cond.initialized RX7]
def wsX9_recall_r5 : List Cond := [Cond.code yX7_copyFrom cX7_copyFrom 3 none, Cond.fieldLink RX7 9 "ShelfStages$Stages" "share" "[I", Cond.fieldLink RX7 18 "ShelfStages$Stages" "markdown" "[F", Cond.methodLink RX8 63 yX5_copyFrom, Cond.instanceMethod yX5_copyFrom, Cond.selects RX5 yX5_copyFrom yX5_copyFrom, Cond.initialized RX5, Cond.code yX5_copyFrom cX5_copyFrom 2 none, Cond.fieldLink RX5 24 "ShelfStages$Log" "size" "I", Cond.fieldLink RX5 28 "ShelfStages$Log" "next" "I", Cond.fieldLink RX5 9 "ShelfStages$Log" "kind" "[I", Cond.fieldLink RX5 15 "ShelfStages$Log" "batch" "[I", Cond.fieldLink RX5 18 "ShelfStages$Log" "units" "[I", Cond.fieldLink RX5 21 "ShelfStages$Log" "day" "[I", Cond.methodLink RX9 202 yX8_wasteGood, Cond.instanceMethod yX8_wasteGood, Cond.selects RX8 yX8_wasteGood yX8_wasteGood, Cond.code yX8_wasteGood cX8_wasteGood 3 none, Cond.fieldLink RX8 106 "ShelfStages$Batches" "size" "I", Cond.fieldLink RX8 84 "ShelfStages$Batches" "good" "[I", Cond.fieldLink RX8 103 "ShelfStages$Batches" "shelf" "[I", Cond.methodLink RX8 161 yX8_waste, Cond.instanceMethod yX8_waste, Cond.selects RX8 yX8_waste yX8_waste]
def wsX9_recall_r6 : List Cond := [Cond.code yX8_waste cX8_waste 4 none, Cond.fieldLink RX8 157 "ShelfStages$Batches" "wasted" "[[I", Cond.methodLink RX8 117 yX5_append, Cond.instanceMethod yX5_append, Cond.selects RX5 yX5_append yX5_append, Cond.code yX5_append cX5_append 5 none, Cond.methodLink RX5 35 Lib.Math.min.name]
def wsX9_recall : List Cond := .code yX9_recall cX9_recall 3 (some .int) :: ((wsX9_recall_r1 ++ (wsX9_recall_r2 ++ (wsX9_recall_r3 ++ (wsX9_recall_r4 ++ (wsX9_recall_r5 ++ wsX9_recall_r6))))) ++ wsX90 ++ wsX80 ++ wsX00 ++ wsX30 ++ wsX40 ++ wsX60 ++ wsX70 ++ wsX50)
def wsX9_pass_r1 : List Cond := [Cond.fieldLink RX9 12 "ShelfStages" "now" "LShelfStages$State;", Cond.fieldLink RX9 172 "ShelfStages$State" "day" "I", Cond.fieldLink RX9 25 "ShelfStages" "history" "LShelfStages$History;", Cond.methodLink RX9 47 yX9_within, Cond.static yX9_within, Cond.initialized RX9, Cond.code yX9_within cX9_within 3 (some .boolean), Cond.methodLink RX9 61 yX4_push, Cond.instanceMethod yX4_push, Cond.selects RX4 yX4_push yX4_push, Cond.initialized RX4, Cond.code yX4_push cX4_push 2 none, Cond.fieldLink RX4 18 "ShelfStages$History" "size" "I", Cond.fieldLink RX4 22 "ShelfStages$History" "oldest" "I", Cond.fieldLink RX4 11 "ShelfStages$History" "states" "[LShelfStages$State;", Cond.methodLink RX4 25 yX8_copyFrom, Cond.instanceMethod yX8_copyFrom, Cond.selects RX8 yX8_copyFrom yX8_copyFrom, Cond.initialized RX8, Cond.code yX8_copyFrom cX8_copyFrom 2 none, Cond.fieldLink RX8 12 "ShelfStages$State" "goods" "LShelfStages$Goods;", Cond.fieldLink RX8 21 "ShelfStages$State" "batches" "LShelfStages$Batches;", Cond.fieldLink RX8 28 "ShelfStages$State" "orders" "LShelfStages$Orders;", Cond.fieldLink RX8 35 "ShelfStages$State" "stages" "LShelfStages$Stages;"]
def wsX9_pass_r2 : List Cond := [Cond.fieldLink RX8 42 "ShelfStages$State" "log" "LShelfStages$Log;", Cond.fieldLink RX8 46 "ShelfStages$State" "settings" "[I", Cond.fieldLink RX8 70 "ShelfStages$State" "rebate" "F", Cond.fieldLink RX8 74 "ShelfStages$State" "day" "I", Cond.methodLink RX8 50 yX3_copyFrom, Cond.instanceMethod yX3_copyFrom, Cond.selects RX3 yX3_copyFrom yX3_copyFrom, Cond.initialized RX3, Cond.code yX3_copyFrom cX3_copyFrom 2 none, Cond.fieldLink RX3 24 "ShelfStages$Goods" "size" "I", Cond.fieldLink RX3 9 "ShelfStages$Goods" "price" "[I", Cond.fieldLink RX3 15 "ShelfStages$Goods" "life" "[I", Cond.fieldLink RX3 18 "ShelfStages$Goods" "listed" "[I", Cond.fieldLink RX3 21 "ShelfStages$Goods" "list" "[I", Cond.static yX9_copyRow, Cond.code yX9_copyRow cX9_copyRow 2 none, Cond.methodLink RX9 357 Lib.Math.min.name, Cond.static Lib.Math.min.name, Cond.initialized "java/lang/Math", Cond.code Lib.Math.min.name Lib.Math.min.code 2 (some .int), Cond.methodLink RX9 362 arraycopyName, Cond.native arraycopyName, Cond.static arraycopyName, Cond.initialized "java/lang/System"]
def wsX9_pass_r3 : List Cond := [Cond.methodLink RX8 54 yX0_copyFrom, Cond.instanceMethod yX0_copyFrom, Cond.selects RX0 yX0_copyFrom yX0_copyFrom, Cond.initialized RX0, Cond.code yX0_copyFrom cX0_copyFrom 3 none, Cond.fieldLink RX0 38 "ShelfStages$Batches" "size" "I", Cond.fieldLink RX0 9 "ShelfStages$Batches" "good" "[I", Cond.fieldLink RX0 15 "ShelfStages$Batches" "came" "[I", Cond.fieldLink RX0 18 "ShelfStages$Batches" "left" "[I", Cond.fieldLink RX0 21 "ShelfStages$Batches" "shelf" "[I", Cond.fieldLink RX0 24 "ShelfStages$Batches" "sold" "[I", Cond.fieldLink RX0 27 "ShelfStages$Batches" "given" "[I", Cond.fieldLink RX0 30 "ShelfStages$Batches" "cents" "[I", Cond.fieldLink RX0 35 "ShelfStages$Batches" "wasted" "[[I", Cond.methodLink RX8 57 yX6_copyFrom, Cond.instanceMethod yX6_copyFrom, Cond.selects RX6 yX6_copyFrom yX6_copyFrom, Cond.initialized RX6, Cond.code yX6_copyFrom cX6_copyFrom 2 none, Cond.fieldLink RX6 48 "ShelfStages$Orders" "size" "I", Cond.fieldLink RX6 52 "ShelfStages$Orders" "takes" "I", Cond.fieldLink RX6 9 "ShelfStages$Orders" "good" "[I", Cond.fieldLink RX6 15 "ShelfStages$Orders" "wanted" "[I", Cond.fieldLink RX6 18 "ShelfStages$Orders" "got" "[I"]
def wsX9_pass_r4 : List Cond := [Cond.fieldLink RX6 21 "ShelfStages$Orders" "replaced" "[I", Cond.fieldLink RX6 24 "ShelfStages$Orders" "least" "[I", Cond.fieldLink RX6 27 "ShelfStages$Orders" "accepts" "[I", Cond.fieldLink RX6 30 "ShelfStages$Orders" "parts" "[I", Cond.fieldLink RX6 33 "ShelfStages$Orders" "due" "[I", Cond.fieldLink RX6 36 "ShelfStages$Orders" "day" "[I", Cond.fieldLink RX6 39 "ShelfStages$Orders" "firstTake" "[I", Cond.fieldLink RX6 42 "ShelfStages$Orders" "takeBatch" "[I", Cond.fieldLink RX6 45 "ShelfStages$Orders" "takeUnits" "[I", Cond.methodLink RX8 60 yX7_copyFrom, Cond.instanceMethod yX7_copyFrom, Cond.selects RX7 yX7_copyFrom yX7_copyFrom, Cond.initialized RX7, Cond.code yX7_copyFrom cX7_copyFrom 3 none, Cond.fieldLink RX7 9 "ShelfStages$Stages" "share" "[I", Cond.fieldLink RX7 18 "ShelfStages$Stages" "markdown" "[F", Cond.methodLink RX8 63 yX5_copyFrom, Cond.instanceMethod yX5_copyFrom, Cond.selects RX5 yX5_copyFrom yX5_copyFrom, Cond.initialized RX5, Cond.code yX5_copyFrom cX5_copyFrom 2 none, Cond.fieldLink RX5 24 "ShelfStages$Log" "size" "I", Cond.fieldLink RX5 28 "ShelfStages$Log" "next" "I", Cond.fieldLink RX5 9 "ShelfStages$Log" "kind" "[I"]
def wsX9_pass_r5 : List Cond := [Cond.fieldLink RX5 15 "ShelfStages$Log" "batch" "[I", Cond.fieldLink RX5 18 "ShelfStages$Log" "units" "[I", Cond.fieldLink RX5 21 "ShelfStages$Log" "day" "[I", Cond.methodLink RX9 206 yX8_passDays, Cond.instanceMethod yX8_passDays, Cond.selects RX8 yX8_passDays yX8_passDays, Cond.code yX8_passDays cX8_passDays 4 (some .int), Cond.methodLink RX8 164 yX0_age, Cond.instanceMethod yX0_age, Cond.selects RX0 yX0_age yX0_age, Cond.code yX0_age cX0_age 2 none, Cond.methodLink RX8 167 yX8_expire, Cond.instanceMethod yX8_expire, Cond.selects RX8 yX8_expire yX8_expire, Cond.code yX8_expire cX8_expire 4 (some .int), Cond.fieldLink RX8 106 "ShelfStages$Batches" "size" "I", Cond.fieldLink RX8 103 "ShelfStages$Batches" "shelf" "[I", Cond.fieldLink RX8 78 "ShelfStages$Batches" "left" "[I", Cond.methodLink RX8 161 yX8_waste, Cond.instanceMethod yX8_waste, Cond.selects RX8 yX8_waste yX8_waste, Cond.code yX8_waste cX8_waste 4 none, Cond.fieldLink RX8 157 "ShelfStages$Batches" "wasted" "[[I", Cond.methodLink RX8 117 yX5_append]
def wsX9_pass_r6 : List Cond := [Cond.instanceMethod yX5_append, Cond.selects RX5 yX5_append yX5_append, Cond.code yX5_append cX5_append 5 none, Cond.methodLink RX5 35 Lib.Math.min.name, Cond.methodLink RX8 171 yX8_donate, Cond.instanceMethod yX8_donate, Cond.selects RX8 yX8_donate yX8_donate, Cond.code yX8_donate cX8_donate 4 none, Cond.methodLink RX8 174 Lib.Math.min.name, Cond.methodLink RX8 98 yX8_stageOf, Cond.instanceMethod yX8_stageOf, Cond.selects RX8 yX8_stageOf yX8_stageOf, Cond.code yX8_stageOf cX8_stageOf 2 (some .int), Cond.fieldLink RX8 81 "ShelfStages$Goods" "life" "[I", Cond.fieldLink RX8 84 "ShelfStages$Batches" "good" "[I", Cond.methodLink RX8 87 yX7_reached, Cond.instanceMethod yX7_reached, Cond.selects RX7 yX7_reached yX7_reached, Cond.code yX7_reached cX7_reached 4 (some .int), Cond.methodLink RX8 179 yX8_give, Cond.instanceMethod yX8_give, Cond.selects RX8 yX8_give yX8_give, Cond.code yX8_give cX8_give 3 none, Cond.fieldLink RX8 154 "ShelfStages$Batches" "given" "[I"]
def wsX9_pass : List Cond := .code yX9_pass cX9_pass 2 (some .int) :: ((wsX9_pass_r1 ++ (wsX9_pass_r2 ++ (wsX9_pass_r3 ++ (wsX9_pass_r4 ++ (wsX9_pass_r5 ++ wsX9_pass_r6))))) ++ wsX90 ++ wsX80 ++ wsX40 ++ wsX30 ++ wsX00 ++ wsX60 ++ wsX70 ++ wsX50)
def wsX9_undo_r1 : List Cond := [Cond.fieldLink RX9 25 "ShelfStages" "history" "LShelfStages$History;", Cond.fieldLink RX9 209 "ShelfStages$History" "size" "I", Cond.fieldLink RX9 12 "ShelfStages" "now" "LShelfStages$State;", Cond.methodLink RX9 210 yX4_popInto, Cond.instanceMethod yX4_popInto, Cond.selects RX4 yX4_popInto yX4_popInto, Cond.initialized RX4, Cond.code yX4_popInto cX4_popInto 2 none, Cond.fieldLink RX4 18 "ShelfStages$History" "size" "I", Cond.fieldLink RX4 11 "ShelfStages$History" "states" "[LShelfStages$State;", Cond.fieldLink RX4 22 "ShelfStages$History" "oldest" "I", Cond.methodLink RX4 25 yX8_copyFrom, Cond.instanceMethod yX8_copyFrom, Cond.selects RX8 yX8_copyFrom yX8_copyFrom, Cond.initialized RX8, Cond.code yX8_copyFrom cX8_copyFrom 2 none, Cond.fieldLink RX8 12 "ShelfStages$State" "goods" "LShelfStages$Goods;", Cond.fieldLink RX8 21 "ShelfStages$State" "batches" "LShelfStages$Batches;", Cond.fieldLink RX8 28 "ShelfStages$State" "orders" "LShelfStages$Orders;", Cond.fieldLink RX8 35 "ShelfStages$State" "stages" "LShelfStages$Stages;", Cond.fieldLink RX8 42 "ShelfStages$State" "log" "LShelfStages$Log;", Cond.fieldLink RX8 46 "ShelfStages$State" "settings" "[I", Cond.fieldLink RX8 70 "ShelfStages$State" "rebate" "F", Cond.fieldLink RX8 74 "ShelfStages$State" "day" "I"]
def wsX9_undo_r2 : List Cond := [Cond.methodLink RX8 50 yX3_copyFrom, Cond.instanceMethod yX3_copyFrom, Cond.selects RX3 yX3_copyFrom yX3_copyFrom, Cond.initialized RX3, Cond.code yX3_copyFrom cX3_copyFrom 2 none, Cond.fieldLink RX3 24 "ShelfStages$Goods" "size" "I", Cond.fieldLink RX3 9 "ShelfStages$Goods" "price" "[I", Cond.fieldLink RX3 15 "ShelfStages$Goods" "life" "[I", Cond.fieldLink RX3 18 "ShelfStages$Goods" "listed" "[I", Cond.fieldLink RX3 21 "ShelfStages$Goods" "list" "[I", Cond.static yX9_copyRow, Cond.initialized RX9, Cond.code yX9_copyRow cX9_copyRow 2 none, Cond.methodLink RX9 357 Lib.Math.min.name, Cond.static Lib.Math.min.name, Cond.initialized "java/lang/Math", Cond.code Lib.Math.min.name Lib.Math.min.code 2 (some .int), Cond.methodLink RX9 362 arraycopyName, Cond.native arraycopyName, Cond.static arraycopyName, Cond.initialized "java/lang/System", Cond.methodLink RX8 54 yX0_copyFrom, Cond.instanceMethod yX0_copyFrom, Cond.selects RX0 yX0_copyFrom yX0_copyFrom]
def wsX9_undo_r3 : List Cond := [Cond.initialized RX0, Cond.code yX0_copyFrom cX0_copyFrom 3 none, Cond.fieldLink RX0 38 "ShelfStages$Batches" "size" "I", Cond.fieldLink RX0 9 "ShelfStages$Batches" "good" "[I", Cond.fieldLink RX0 15 "ShelfStages$Batches" "came" "[I", Cond.fieldLink RX0 18 "ShelfStages$Batches" "left" "[I", Cond.fieldLink RX0 21 "ShelfStages$Batches" "shelf" "[I", Cond.fieldLink RX0 24 "ShelfStages$Batches" "sold" "[I", Cond.fieldLink RX0 27 "ShelfStages$Batches" "given" "[I", Cond.fieldLink RX0 30 "ShelfStages$Batches" "cents" "[I", Cond.fieldLink RX0 35 "ShelfStages$Batches" "wasted" "[[I", Cond.methodLink RX8 57 yX6_copyFrom, Cond.instanceMethod yX6_copyFrom, Cond.selects RX6 yX6_copyFrom yX6_copyFrom, Cond.initialized RX6, Cond.code yX6_copyFrom cX6_copyFrom 2 none, Cond.fieldLink RX6 48 "ShelfStages$Orders" "size" "I", Cond.fieldLink RX6 52 "ShelfStages$Orders" "takes" "I", Cond.fieldLink RX6 9 "ShelfStages$Orders" "good" "[I", Cond.fieldLink RX6 15 "ShelfStages$Orders" "wanted" "[I", Cond.fieldLink RX6 18 "ShelfStages$Orders" "got" "[I", Cond.fieldLink RX6 21 "ShelfStages$Orders" "replaced" "[I", Cond.fieldLink RX6 24 "ShelfStages$Orders" "least" "[I", Cond.fieldLink RX6 27 "ShelfStages$Orders" "accepts" "[I"]
def wsX9_undo_r4 : List Cond := [Cond.fieldLink RX6 30 "ShelfStages$Orders" "parts" "[I", Cond.fieldLink RX6 33 "ShelfStages$Orders" "due" "[I", Cond.fieldLink RX6 36 "ShelfStages$Orders" "day" "[I", Cond.fieldLink RX6 39 "ShelfStages$Orders" "firstTake" "[I", Cond.fieldLink RX6 42 "ShelfStages$Orders" "takeBatch" "[I", Cond.fieldLink RX6 45 "ShelfStages$Orders" "takeUnits" "[I", Cond.methodLink RX8 60 yX7_copyFrom, Cond.instanceMethod yX7_copyFrom, Cond.selects RX7 yX7_copyFrom yX7_copyFrom, Cond.initialized RX7, Cond.code yX7_copyFrom cX7_copyFrom 3 none, Cond.fieldLink RX7 9 "ShelfStages$Stages" "share" "[I", Cond.fieldLink RX7 18 "ShelfStages$Stages" "markdown" "[F", Cond.methodLink RX8 63 yX5_copyFrom, Cond.instanceMethod yX5_copyFrom, Cond.selects RX5 yX5_copyFrom yX5_copyFrom, Cond.initialized RX5, Cond.code yX5_copyFrom cX5_copyFrom 2 none, Cond.fieldLink RX5 24 "ShelfStages$Log" "size" "I", Cond.fieldLink RX5 28 "ShelfStages$Log" "next" "I", Cond.fieldLink RX5 9 "ShelfStages$Log" "kind" "[I", Cond.fieldLink RX5 15 "ShelfStages$Log" "batch" "[I", Cond.fieldLink RX5 18 "ShelfStages$Log" "units" "[I", Cond.fieldLink RX5 21 "ShelfStages$Log" "day" "[I"]
def wsX9_undo : List Cond := .code yX9_undo cX9_undo 1 (some .int) :: ((wsX9_undo_r1 ++ (wsX9_undo_r2 ++ (wsX9_undo_r3 ++ wsX9_undo_r4))) ++ wsX90 ++ wsX40 ++ wsX80 ++ wsX30 ++ wsX00 ++ wsX60 ++ wsX70 ++ wsX50)
def wsX9_good_r1 : List Cond := [Cond.fieldLink RX9 12 "ShelfStages" "now" "LShelfStages$State;", Cond.fieldLink RX9 129 "ShelfStages$State" "batches" "LShelfStages$Batches;", Cond.fieldLink RX9 51 "ShelfStages$State" "goods" "LShelfStages$Goods;", Cond.fieldLink RX9 73 "ShelfStages$Goods" "price" "[I", Cond.fieldLink RX9 220 "ShelfStages$Goods" "life" "[I", Cond.fieldLink RX9 77 "ShelfStages$Goods" "listed" "[I", Cond.fieldLink RX9 192 "ShelfStages$Batches" "shelf" "[I", Cond.fieldLink RX9 226 "ShelfStages$Batches" "sold" "[I", Cond.fieldLink RX9 165 "ShelfStages$State" "orders" "LShelfStages$Orders;", Cond.methodLink RX9 69 yX9_hasGood, Cond.instanceMethod yX9_hasGood, Cond.selects RX9 yX9_hasGood yX9_hasGood, Cond.initialized RX9, Cond.code yX9_hasGood cX9_hasGood 2 (some .boolean), Cond.fieldLink RX9 55 "ShelfStages$Goods" "size" "I", Cond.methodLink RX9 47 yX9_within, Cond.static yX9_within, Cond.code yX9_within cX9_within 3 (some .boolean), Cond.methodLink RX9 198 yX0_sumOfGood, Cond.instanceMethod yX0_sumOfGood, Cond.selects RX0 yX0_sumOfGood yX0_sumOfGood, Cond.initialized RX0, Cond.code yX0_sumOfGood cX0_sumOfGood 5 (some .int), Cond.fieldLink RX0 38 "ShelfStages$Batches" "size" "I"]
def wsX9_good_r2 : List Cond := [Cond.fieldLink RX0 9 "ShelfStages$Batches" "good" "[I", Cond.methodLink RX9 223 yX0_countOfGood, Cond.instanceMethod yX0_countOfGood, Cond.selects RX0 yX0_countOfGood yX0_countOfGood, Cond.code yX0_countOfGood cX0_countOfGood 4 (some .int), Cond.methodLink RX9 229 yX6_gotForGood, Cond.instanceMethod yX6_gotForGood, Cond.selects RX6 yX6_gotForGood yX6_gotForGood, Cond.initialized RX6, Cond.code yX6_gotForGood cX6_gotForGood 4 (some .int), Cond.fieldLink RX6 48 "ShelfStages$Orders" "size" "I", Cond.fieldLink RX6 9 "ShelfStages$Orders" "good" "[I", Cond.fieldLink RX6 18 "ShelfStages$Orders" "got" "[I"]
def wsX9_good : List Cond := .code yX9_good cX9_good 4 (some .int) :: ((wsX9_good_r1 ++ wsX9_good_r2) ++ wsX90 ++ wsX80 ++ wsX30 ++ wsX00 ++ wsX60)
def wsX9_placeError : List Cond := .code yX9_placeError cX9_placeError 3 (some .int) :: ([.fieldLink RX9 12 "ShelfStages" "now" "LShelfStages$State;", .fieldLink RX9 51 "ShelfStages$State" "goods" "LShelfStages$Goods;", .fieldLink RX9 77 "ShelfStages$Goods" "listed" "[I", .methodLink RX9 69 yX9_hasGood, .instanceMethod yX9_hasGood, .selects RX9 yX9_hasGood yX9_hasGood, .initialized RX9, .code yX9_hasGood cX9_hasGood 2 (some .boolean), .fieldLink RX9 55 "ShelfStages$Goods" "size" "I", .methodLink RX9 47 yX9_within, .static yX9_within, .code yX9_within cX9_within 3 (some .boolean)] ++ wsX90 ++ wsX80 ++ wsX30)
def wsX9_substitute : List Cond := .code yX9_substitute cX9_substitute 4 (some .int) :: ([.fieldLink RX9 12 "ShelfStages" "now" "LShelfStages$State;", .fieldLink RX9 51 "ShelfStages$State" "goods" "LShelfStages$Goods;", .methodLink RX9 88 yX9_placeError, .instanceMethod yX9_placeError, .selects RX9 yX9_placeError yX9_placeError, .initialized RX9, .code yX9_placeError cX9_placeError 3 (some .int), .fieldLink RX9 77 "ShelfStages$Goods" "listed" "[I", .methodLink RX9 69 yX9_hasGood, .instanceMethod yX9_hasGood, .selects RX9 yX9_hasGood yX9_hasGood, .code yX9_hasGood cX9_hasGood 2 (some .boolean), .fieldLink RX9 55 "ShelfStages$Goods" "size" "I", .methodLink RX9 47 yX9_within, .static yX9_within, .code yX9_within cX9_within 3 (some .boolean), .methodLink RX9 232 yX3_listedAt, .instanceMethod yX3_listedAt, .selects RX3 yX3_listedAt yX3_listedAt, .initialized RX3, .code yX3_listedAt cX3_listedAt 3 (some .int), .fieldLink RX3 21 "ShelfStages$Goods" "list" "[I"] ++ wsX90 ++ wsX80 ++ wsX30)
def wsX9_hasBatch : List Cond := .code yX9_hasBatch cX9_hasBatch 2 (some .boolean) :: ([.fieldLink RX9 12 "ShelfStages" "now" "LShelfStages$State;", .fieldLink RX9 129 "ShelfStages$State" "batches" "LShelfStages$Batches;", .fieldLink RX9 133 "ShelfStages$Batches" "size" "I", .methodLink RX9 47 yX9_within, .static yX9_within, .initialized RX9, .code yX9_within cX9_within 3 (some .boolean)] ++ wsX90 ++ wsX80 ++ wsX00)
def wsX9_batch_r1 : List Cond := [Cond.fieldLink RX9 12 "ShelfStages" "now" "LShelfStages$State;", Cond.fieldLink RX9 129 "ShelfStages$State" "batches" "LShelfStages$Batches;", Cond.fieldLink RX9 235 "ShelfStages$Batches" "good" "[I", Cond.fieldLink RX9 238 "ShelfStages$Batches" "came" "[I", Cond.fieldLink RX9 241 "ShelfStages$Batches" "left" "[I", Cond.fieldLink RX9 192 "ShelfStages$Batches" "shelf" "[I", Cond.fieldLink RX9 226 "ShelfStages$Batches" "sold" "[I", Cond.fieldLink RX9 244 "ShelfStages$Batches" "given" "[I", Cond.fieldLink RX9 250 "ShelfStages$Batches" "wasted" "[[I", Cond.fieldLink RX9 257 "ShelfStages$Batches" "cents" "[I", Cond.methodLink RX9 189 yX9_hasBatch, Cond.instanceMethod yX9_hasBatch, Cond.selects RX9 yX9_hasBatch yX9_hasBatch, Cond.initialized RX9, Cond.code yX9_hasBatch cX9_hasBatch 2 (some .boolean), Cond.fieldLink RX9 133 "ShelfStages$Batches" "size" "I", Cond.methodLink RX9 47 yX9_within, Cond.static yX9_within, Cond.code yX9_within cX9_within 3 (some .boolean), Cond.methodLink RX9 247 yX0_wastedOf, Cond.instanceMethod yX0_wastedOf, Cond.selects RX0 yX0_wastedOf yX0_wastedOf, Cond.initialized RX0, Cond.code yX0_wastedOf cX0_wastedOf 2 (some .int)]
def wsX9_batch_r2 : List Cond := [Cond.fieldLink RX0 35 "ShelfStages$Batches" "wasted" "[[I", Cond.methodLink RX9 254 yX8_stageOf, Cond.instanceMethod yX8_stageOf, Cond.selects RX8 yX8_stageOf yX8_stageOf, Cond.initialized RX8, Cond.code yX8_stageOf cX8_stageOf 2 (some .int), Cond.fieldLink RX8 35 "ShelfStages$State" "stages" "LShelfStages$Stages;", Cond.fieldLink RX8 21 "ShelfStages$State" "batches" "LShelfStages$Batches;", Cond.fieldLink RX8 78 "ShelfStages$Batches" "left" "[I", Cond.fieldLink RX8 12 "ShelfStages$State" "goods" "LShelfStages$Goods;", Cond.fieldLink RX8 81 "ShelfStages$Goods" "life" "[I", Cond.fieldLink RX8 84 "ShelfStages$Batches" "good" "[I", Cond.methodLink RX8 87 yX7_reached, Cond.instanceMethod yX7_reached, Cond.selects RX7 yX7_reached yX7_reached, Cond.initialized RX7, Cond.code yX7_reached cX7_reached 4 (some .int), Cond.fieldLink RX7 9 "ShelfStages$Stages" "share" "[I"]
def wsX9_batch : List Cond := .code yX9_batch cX9_batch 4 (some .int) :: ((wsX9_batch_r1 ++ wsX9_batch_r2) ++ wsX90 ++ wsX80 ++ wsX00 ++ wsX30 ++ wsX70)
def wsX9_notANumber : List Cond := .code yX9_notANumber cX9_notANumber 0 (some .float) :: ([.constantFloat RX9 356 (2143289344)])
def wsX9_unitPrice_r1 : List Cond := [Cond.fieldLink RX9 12 "ShelfStages" "now" "LShelfStages$State;", Cond.methodLink RX9 189 yX9_hasBatch, Cond.instanceMethod yX9_hasBatch, Cond.selects RX9 yX9_hasBatch yX9_hasBatch, Cond.initialized RX9, Cond.code yX9_hasBatch cX9_hasBatch 2 (some .boolean), Cond.fieldLink RX9 129 "ShelfStages$State" "batches" "LShelfStages$Batches;", Cond.fieldLink RX9 133 "ShelfStages$Batches" "size" "I", Cond.methodLink RX9 47 yX9_within, Cond.static yX9_within, Cond.code yX9_within cX9_within 3 (some .boolean), Cond.methodLink RX9 260 yX9_notANumber, Cond.static yX9_notANumber, Cond.code yX9_notANumber cX9_notANumber 0 (some .float), Cond.constantFloat RX9 356 (2143289344), Cond.methodLink RX9 264 yX8_priceOfUnit, Cond.instanceMethod yX8_priceOfUnit, Cond.selects RX8 yX8_priceOfUnit yX8_priceOfUnit, Cond.initialized RX8, Cond.code yX8_priceOfUnit cX8_priceOfUnit 3 (some .float), Cond.fieldLink RX8 12 "ShelfStages$State" "goods" "LShelfStages$Goods;", Cond.fieldLink RX8 91 "ShelfStages$Goods" "price" "[I", Cond.fieldLink RX8 21 "ShelfStages$State" "batches" "LShelfStages$Batches;", Cond.fieldLink RX8 84 "ShelfStages$Batches" "good" "[I"]
def wsX9_unitPrice_r2 : List Cond := [Cond.fieldLink RX8 35 "ShelfStages$State" "stages" "LShelfStages$Stages;", Cond.fieldLink RX8 94 "ShelfStages$Stages" "markdown" "[F", Cond.constantFloat RX8 102 (1120403456), Cond.methodLink RX8 98 yX8_stageOf, Cond.instanceMethod yX8_stageOf, Cond.selects RX8 yX8_stageOf yX8_stageOf, Cond.code yX8_stageOf cX8_stageOf 2 (some .int), Cond.fieldLink RX8 78 "ShelfStages$Batches" "left" "[I", Cond.fieldLink RX8 81 "ShelfStages$Goods" "life" "[I", Cond.methodLink RX8 87 yX7_reached, Cond.instanceMethod yX7_reached, Cond.selects RX7 yX7_reached yX7_reached, Cond.initialized RX7, Cond.code yX7_reached cX7_reached 4 (some .int), Cond.fieldLink RX7 9 "ShelfStages$Stages" "share" "[I"]
def wsX9_unitPrice : List Cond := .code yX9_unitPrice cX9_unitPrice 2 (some .float) :: ((wsX9_unitPrice_r1 ++ wsX9_unitPrice_r2) ++ wsX90 ++ wsX80 ++ wsX00 ++ wsX30 ++ wsX70)
def wsX9_isStage : List Cond := .code yX9_isStage cX9_isStage 1 (some .boolean) :: ([.methodLink RX9 47 yX9_within, .static yX9_within, .initialized RX9, .code yX9_within cX9_within 3 (some .boolean)])
def wsX9_markdown : List Cond := .code yX9_markdown cX9_markdown 2 (some .float) :: ([.fieldLink RX9 12 "ShelfStages" "now" "LShelfStages$State;", .fieldLink RX9 94 "ShelfStages$State" "stages" "LShelfStages$Stages;", .fieldLink RX9 111 "ShelfStages$Stages" "markdown" "[F", .methodLink RX9 267 yX9_isStage, .static yX9_isStage, .initialized RX9, .code yX9_isStage cX9_isStage 1 (some .boolean), .methodLink RX9 47 yX9_within, .static yX9_within, .code yX9_within cX9_within 3 (some .boolean), .methodLink RX9 260 yX9_notANumber, .static yX9_notANumber, .code yX9_notANumber cX9_notANumber 0 (some .float), .constantFloat RX9 356 (2143289344)] ++ wsX90 ++ wsX80 ++ wsX70)
def wsX9_stage_r1 : List Cond := [Cond.fieldLink RX9 12 "ShelfStages" "now" "LShelfStages$State;", Cond.fieldLink RX9 94 "ShelfStages$State" "stages" "LShelfStages$Stages;", Cond.fieldLink RX9 104 "ShelfStages$Stages" "share" "[I", Cond.methodLink RX9 267 yX9_isStage, Cond.static yX9_isStage, Cond.initialized RX9, Cond.code yX9_isStage cX9_isStage 1 (some .boolean), Cond.methodLink RX9 47 yX9_within, Cond.static yX9_within, Cond.code yX9_within cX9_within 3 (some .boolean), Cond.methodLink RX9 270 yX8_batchesInStage, Cond.instanceMethod yX8_batchesInStage, Cond.selects RX8 yX8_batchesInStage yX8_batchesInStage, Cond.initialized RX8, Cond.code yX8_batchesInStage cX8_batchesInStage 4 (some .int), Cond.fieldLink RX8 21 "ShelfStages$State" "batches" "LShelfStages$Batches;", Cond.fieldLink RX8 106 "ShelfStages$Batches" "size" "I", Cond.methodLink RX8 109 yX8_isOnShelfIn, Cond.instanceMethod yX8_isOnShelfIn, Cond.selects RX8 yX8_isOnShelfIn yX8_isOnShelfIn, Cond.code yX8_isOnShelfIn cX8_isOnShelfIn 3 (some .boolean), Cond.fieldLink RX8 103 "ShelfStages$Batches" "shelf" "[I", Cond.methodLink RX8 98 yX8_stageOf, Cond.instanceMethod yX8_stageOf]
def wsX9_stage_r2 : List Cond := [Cond.selects RX8 yX8_stageOf yX8_stageOf, Cond.code yX8_stageOf cX8_stageOf 2 (some .int), Cond.fieldLink RX8 35 "ShelfStages$State" "stages" "LShelfStages$Stages;", Cond.fieldLink RX8 78 "ShelfStages$Batches" "left" "[I", Cond.fieldLink RX8 12 "ShelfStages$State" "goods" "LShelfStages$Goods;", Cond.fieldLink RX8 81 "ShelfStages$Goods" "life" "[I", Cond.fieldLink RX8 84 "ShelfStages$Batches" "good" "[I", Cond.methodLink RX8 87 yX7_reached, Cond.instanceMethod yX7_reached, Cond.selects RX7 yX7_reached yX7_reached, Cond.initialized RX7, Cond.code yX7_reached cX7_reached 4 (some .int), Cond.fieldLink RX7 9 "ShelfStages$Stages" "share" "[I", Cond.methodLink RX9 273 yX8_unitsInStage, Cond.instanceMethod yX8_unitsInStage, Cond.selects RX8 yX8_unitsInStage yX8_unitsInStage, Cond.code yX8_unitsInStage cX8_unitsInStage 4 (some .int)]
def wsX9_stage : List Cond := .code yX9_stage cX9_stage 3 (some .int) :: ((wsX9_stage_r1 ++ wsX9_stage_r2) ++ wsX90 ++ wsX80 ++ wsX70 ++ wsX00 ++ wsX30)
def wsX9_hasOrder : List Cond := .code yX9_hasOrder cX9_hasOrder 2 (some .boolean) :: ([.fieldLink RX9 12 "ShelfStages" "now" "LShelfStages$State;", .fieldLink RX9 165 "ShelfStages$State" "orders" "LShelfStages$Orders;", .fieldLink RX9 169 "ShelfStages$Orders" "size" "I", .methodLink RX9 47 yX9_within, .static yX9_within, .initialized RX9, .code yX9_within cX9_within 3 (some .boolean)] ++ wsX90 ++ wsX80 ++ wsX60)
def wsX9_orderTold : List Cond := .code yX9_orderTold cX9_orderTold 4 (some .int) :: ([.fieldLink RX9 12 "ShelfStages" "now" "LShelfStages$State;", .fieldLink RX9 165 "ShelfStages$State" "orders" "LShelfStages$Orders;", .fieldLink RX9 279 "ShelfStages$Orders" "good" "[I", .fieldLink RX9 280 "ShelfStages$Orders" "wanted" "[I", .fieldLink RX9 283 "ShelfStages$Orders" "got" "[I", .fieldLink RX9 285 "ShelfStages$Orders" "replaced" "[I", .fieldLink RX9 288 "ShelfStages$Orders" "least" "[I", .fieldLink RX9 291 "ShelfStages$Orders" "accepts" "[I", .fieldLink RX9 294 "ShelfStages$Orders" "parts" "[I", .fieldLink RX9 297 "ShelfStages$Orders" "due" "[I", .fieldLink RX9 300 "ShelfStages$Orders" "day" "[I", .methodLink RX9 276 yX9_hasOrder, .instanceMethod yX9_hasOrder, .selects RX9 yX9_hasOrder yX9_hasOrder, .initialized RX9, .code yX9_hasOrder cX9_hasOrder 2 (some .boolean), .fieldLink RX9 169 "ShelfStages$Orders" "size" "I", .methodLink RX9 47 yX9_within, .static yX9_within, .code yX9_within cX9_within 3 (some .boolean)] ++ wsX90 ++ wsX80 ++ wsX60)
def wsX9_taken : List Cond := .code yX9_taken cX9_taken 5 (some .int) :: ([.fieldLink RX9 12 "ShelfStages" "now" "LShelfStages$State;", .fieldLink RX9 165 "ShelfStages$State" "orders" "LShelfStages$Orders;", .fieldLink RX9 294 "ShelfStages$Orders" "parts" "[I", .fieldLink RX9 302 "ShelfStages$Orders" "firstTake" "[I", .fieldLink RX9 305 "ShelfStages$Orders" "takeBatch" "[I", .fieldLink RX9 308 "ShelfStages$Orders" "takeUnits" "[I", .methodLink RX9 276 yX9_hasOrder, .instanceMethod yX9_hasOrder, .selects RX9 yX9_hasOrder yX9_hasOrder, .initialized RX9, .code yX9_hasOrder cX9_hasOrder 2 (some .boolean), .fieldLink RX9 169 "ShelfStages$Orders" "size" "I", .methodLink RX9 47 yX9_within, .static yX9_within, .code yX9_within cX9_within 3 (some .boolean)] ++ wsX90 ++ wsX80 ++ wsX60)
def wsX9_wouldGet_r1 : List Cond := [Cond.fieldLink RX9 32 "ShelfStages" "filling" "LShelfStages$Filling;", Cond.fieldLink RX9 12 "ShelfStages" "now" "LShelfStages$State;", Cond.fieldLink RX9 186 "ShelfStages$Filling" "got" "I", Cond.fieldLink RX9 311 "ShelfStages$Filling" "replaced" "I", Cond.fieldLink RX9 313 "ShelfStages$Filling" "size" "I", Cond.fieldLink RX9 122 "ShelfStages$State" "rebate" "F", Cond.methodLink RX9 162 yX9_wishError, Cond.instanceMethod yX9_wishError, Cond.selects RX9 yX9_wishError yX9_wishError, Cond.initialized RX9, Cond.code yX9_wishError cX9_wishError 5 (some .int), Cond.methodLink RX9 69 yX9_hasGood, Cond.instanceMethod yX9_hasGood, Cond.selects RX9 yX9_hasGood yX9_hasGood, Cond.code yX9_hasGood cX9_hasGood 2 (some .boolean), Cond.fieldLink RX9 51 "ShelfStages$State" "goods" "LShelfStages$Goods;", Cond.fieldLink RX9 55 "ShelfStages$Goods" "size" "I", Cond.methodLink RX9 47 yX9_within, Cond.static yX9_within, Cond.code yX9_within cX9_within 3 (some .boolean), Cond.methodLink RX9 178 yX2_fill, Cond.instanceMethod yX2_fill, Cond.selects RX2 yX2_fill yX2_fill, Cond.initialized RX2]
def wsX9_wouldGet_r2 : List Cond := [Cond.code yX2_fill cX2_fill 9 none, Cond.fieldLink RX2 28 "ShelfStages$Filling" "size" "I", Cond.fieldLink RX2 32 "ShelfStages$Filling" "got" "I", Cond.fieldLink RX2 35 "ShelfStages$Filling" "orderedGood" "I", Cond.fieldLink RX2 38 "ShelfStages$Filling" "wanted" "I", Cond.fieldLink RX2 41 "ShelfStages$Filling" "least" "I", Cond.fieldLink RX2 44 "ShelfStages$State" "batches" "LShelfStages$Batches;", Cond.fieldLink RX2 50 "ShelfStages$Batches" "shelf" "[I", Cond.fieldLink RX2 21 "ShelfStages$Filling" "rest" "[I", Cond.fieldLink RX2 59 "ShelfStages$Batches" "size" "I", Cond.fieldLink RX2 24 "ShelfStages$Filling" "price" "[F", Cond.fieldLink RX2 68 "ShelfStages$State" "goods" "LShelfStages$Goods;", Cond.fieldLink RX2 72 "ShelfStages$Goods" "listed" "[I", Cond.fieldLink RX2 81 "ShelfStages$Filling" "replaced" "I", Cond.static yX9_copyRow, Cond.code yX9_copyRow cX9_copyRow 2 none, Cond.methodLink RX9 357 Lib.Math.min.name, Cond.static Lib.Math.min.name, Cond.initialized "java/lang/Math", Cond.code Lib.Math.min.name Lib.Math.min.code 2 (some .int), Cond.methodLink RX9 362 arraycopyName, Cond.native arraycopyName, Cond.static arraycopyName, Cond.initialized "java/lang/System"]
def wsX9_wouldGet_r3 : List Cond := [Cond.methodLink RX2 60 yX8_priceOfUnit, Cond.instanceMethod yX8_priceOfUnit, Cond.selects RX8 yX8_priceOfUnit yX8_priceOfUnit, Cond.initialized RX8, Cond.code yX8_priceOfUnit cX8_priceOfUnit 3 (some .float), Cond.fieldLink RX8 12 "ShelfStages$State" "goods" "LShelfStages$Goods;", Cond.fieldLink RX8 91 "ShelfStages$Goods" "price" "[I", Cond.fieldLink RX8 21 "ShelfStages$State" "batches" "LShelfStages$Batches;", Cond.fieldLink RX8 84 "ShelfStages$Batches" "good" "[I", Cond.fieldLink RX8 35 "ShelfStages$State" "stages" "LShelfStages$Stages;", Cond.fieldLink RX8 94 "ShelfStages$Stages" "markdown" "[F", Cond.constantFloat RX8 102 (1120403456), Cond.methodLink RX8 98 yX8_stageOf, Cond.instanceMethod yX8_stageOf, Cond.selects RX8 yX8_stageOf yX8_stageOf, Cond.code yX8_stageOf cX8_stageOf 2 (some .int), Cond.fieldLink RX8 78 "ShelfStages$Batches" "left" "[I", Cond.fieldLink RX8 81 "ShelfStages$Goods" "life" "[I", Cond.methodLink RX8 87 yX7_reached, Cond.instanceMethod yX7_reached, Cond.selects RX7 yX7_reached yX7_reached, Cond.initialized RX7, Cond.code yX7_reached cX7_reached 4 (some .int), Cond.fieldLink RX7 9 "ShelfStages$Stages" "share" "[I"]
def wsX9_wouldGet_r4 : List Cond := [Cond.methodLink RX2 64 yX2_takeFrom, Cond.instanceMethod yX2_takeFrom, Cond.selects RX2 yX2_takeFrom yX2_takeFrom, Cond.code yX2_takeFrom cX2_takeFrom 5 none, Cond.methodLink RX2 89 Lib.Math.min.name, Cond.methodLink RX2 85 yX2_nextBatch, Cond.instanceMethod yX2_nextBatch, Cond.selects RX2 yX2_nextBatch yX2_nextBatch, Cond.code yX2_nextBatch cX2_nextBatch 5 (some .int), Cond.methodLink RX2 107 yX2_isOpen, Cond.instanceMethod yX2_isOpen, Cond.selects RX2 yX2_isOpen yX2_isOpen, Cond.code yX2_isOpen cX2_isOpen 5 (some .boolean), Cond.fieldLink RX2 104 "ShelfStages$Batches" "good" "[I", Cond.fieldLink RX2 114 "ShelfStages$Batches" "left" "[I", Cond.methodLink RX2 111 yX2_isBefore, Cond.instanceMethod yX2_isBefore, Cond.selects RX2 yX2_isBefore yX2_isBefore, Cond.code yX2_isBefore cX2_isBefore 5 (some .boolean), Cond.fieldLink RX2 117 "ShelfStages$State" "settings" "[I", Cond.methodLink RX2 94 yX2_takePart, Cond.instanceMethod yX2_takePart, Cond.selects RX2 yX2_takePart yX2_takePart, Cond.code yX2_takePart cX2_takePart 4 none]
def wsX9_wouldGet_r5 : List Cond := [Cond.fieldLink RX2 9 "ShelfStages$Filling" "batch" "[I", Cond.fieldLink RX2 15 "ShelfStages$Filling" "units" "[I", Cond.fieldLink RX2 18 "ShelfStages$Filling" "cents" "[I", Cond.methodLink RX2 98 yX2_chargedPrice, Cond.instanceMethod yX2_chargedPrice, Cond.selects RX2 yX2_chargedPrice yX2_chargedPrice, Cond.code yX2_chargedPrice cX2_chargedPrice 5 (some .float), Cond.fieldLink RX2 102 "ShelfStages$Goods" "price" "[I", Cond.methodLink RX2 77 yX3_listedAt, Cond.instanceMethod yX3_listedAt, Cond.selects RX3 yX3_listedAt yX3_listedAt, Cond.initialized RX3, Cond.code yX3_listedAt cX3_listedAt 3 (some .int), Cond.fieldLink RX3 21 "ShelfStages$Goods" "list" "[I", Cond.methodLink RX9 314 yX2_due, Cond.instanceMethod yX2_due, Cond.selects RX2 yX2_due yX2_due, Cond.code yX2_due cX2_due 4 (some .int), Cond.constantFloat RX2 84 (1120403456)]
def wsX9_wouldGet : List Cond := .code yX9_wouldGet cX9_wouldGet 7 (some .int) :: ((wsX9_wouldGet_r1 ++ (wsX9_wouldGet_r2 ++ (wsX9_wouldGet_r3 ++ (wsX9_wouldGet_r4 ++ wsX9_wouldGet_r5)))) ++ wsX90 ++ wsX20 ++ wsX80 ++ wsX30 ++ wsX00 ++ wsX70)
def wsX9_wouldExpire_r1 : List Cond := [Cond.fieldLink RX9 19 "ShelfStages" "trial" "LShelfStages$State;", Cond.fieldLink RX9 12 "ShelfStages" "now" "LShelfStages$State;", Cond.fieldLink RX9 129 "ShelfStages$State" "batches" "LShelfStages$Batches;", Cond.fieldLink RX9 250 "ShelfStages$Batches" "wasted" "[[I", Cond.methodLink RX9 189 yX9_hasBatch, Cond.instanceMethod yX9_hasBatch, Cond.selects RX9 yX9_hasBatch yX9_hasBatch, Cond.initialized RX9, Cond.code yX9_hasBatch cX9_hasBatch 2 (some .boolean), Cond.fieldLink RX9 133 "ShelfStages$Batches" "size" "I", Cond.methodLink RX9 47 yX9_within, Cond.static yX9_within, Cond.code yX9_within cX9_within 3 (some .boolean), Cond.methodLink RX9 213 yX8_copyFrom, Cond.instanceMethod yX8_copyFrom, Cond.selects RX8 yX8_copyFrom yX8_copyFrom, Cond.initialized RX8, Cond.code yX8_copyFrom cX8_copyFrom 2 none, Cond.fieldLink RX8 12 "ShelfStages$State" "goods" "LShelfStages$Goods;", Cond.fieldLink RX8 21 "ShelfStages$State" "batches" "LShelfStages$Batches;", Cond.fieldLink RX8 28 "ShelfStages$State" "orders" "LShelfStages$Orders;", Cond.fieldLink RX8 35 "ShelfStages$State" "stages" "LShelfStages$Stages;", Cond.fieldLink RX8 42 "ShelfStages$State" "log" "LShelfStages$Log;", Cond.fieldLink RX8 46 "ShelfStages$State" "settings" "[I"]
def wsX9_wouldExpire_r2 : List Cond := [Cond.fieldLink RX8 70 "ShelfStages$State" "rebate" "F", Cond.fieldLink RX8 74 "ShelfStages$State" "day" "I", Cond.methodLink RX8 50 yX3_copyFrom, Cond.instanceMethod yX3_copyFrom, Cond.selects RX3 yX3_copyFrom yX3_copyFrom, Cond.initialized RX3, Cond.code yX3_copyFrom cX3_copyFrom 2 none, Cond.fieldLink RX3 24 "ShelfStages$Goods" "size" "I", Cond.fieldLink RX3 9 "ShelfStages$Goods" "price" "[I", Cond.fieldLink RX3 15 "ShelfStages$Goods" "life" "[I", Cond.fieldLink RX3 18 "ShelfStages$Goods" "listed" "[I", Cond.fieldLink RX3 21 "ShelfStages$Goods" "list" "[I", Cond.static yX9_copyRow, Cond.code yX9_copyRow cX9_copyRow 2 none, Cond.methodLink RX9 357 Lib.Math.min.name, Cond.static Lib.Math.min.name, Cond.initialized "java/lang/Math", Cond.code Lib.Math.min.name Lib.Math.min.code 2 (some .int), Cond.methodLink RX9 362 arraycopyName, Cond.native arraycopyName, Cond.static arraycopyName, Cond.initialized "java/lang/System", Cond.methodLink RX8 54 yX0_copyFrom, Cond.instanceMethod yX0_copyFrom]
def wsX9_wouldExpire_r3 : List Cond := [Cond.selects RX0 yX0_copyFrom yX0_copyFrom, Cond.initialized RX0, Cond.code yX0_copyFrom cX0_copyFrom 3 none, Cond.fieldLink RX0 38 "ShelfStages$Batches" "size" "I", Cond.fieldLink RX0 9 "ShelfStages$Batches" "good" "[I", Cond.fieldLink RX0 15 "ShelfStages$Batches" "came" "[I", Cond.fieldLink RX0 18 "ShelfStages$Batches" "left" "[I", Cond.fieldLink RX0 21 "ShelfStages$Batches" "shelf" "[I", Cond.fieldLink RX0 24 "ShelfStages$Batches" "sold" "[I", Cond.fieldLink RX0 27 "ShelfStages$Batches" "given" "[I", Cond.fieldLink RX0 30 "ShelfStages$Batches" "cents" "[I", Cond.fieldLink RX0 35 "ShelfStages$Batches" "wasted" "[[I", Cond.methodLink RX8 57 yX6_copyFrom, Cond.instanceMethod yX6_copyFrom, Cond.selects RX6 yX6_copyFrom yX6_copyFrom, Cond.initialized RX6, Cond.code yX6_copyFrom cX6_copyFrom 2 none, Cond.fieldLink RX6 48 "ShelfStages$Orders" "size" "I", Cond.fieldLink RX6 52 "ShelfStages$Orders" "takes" "I", Cond.fieldLink RX6 9 "ShelfStages$Orders" "good" "[I", Cond.fieldLink RX6 15 "ShelfStages$Orders" "wanted" "[I", Cond.fieldLink RX6 18 "ShelfStages$Orders" "got" "[I", Cond.fieldLink RX6 21 "ShelfStages$Orders" "replaced" "[I", Cond.fieldLink RX6 24 "ShelfStages$Orders" "least" "[I"]
def wsX9_wouldExpire_r4 : List Cond := [Cond.fieldLink RX6 27 "ShelfStages$Orders" "accepts" "[I", Cond.fieldLink RX6 30 "ShelfStages$Orders" "parts" "[I", Cond.fieldLink RX6 33 "ShelfStages$Orders" "due" "[I", Cond.fieldLink RX6 36 "ShelfStages$Orders" "day" "[I", Cond.fieldLink RX6 39 "ShelfStages$Orders" "firstTake" "[I", Cond.fieldLink RX6 42 "ShelfStages$Orders" "takeBatch" "[I", Cond.fieldLink RX6 45 "ShelfStages$Orders" "takeUnits" "[I", Cond.methodLink RX8 60 yX7_copyFrom, Cond.instanceMethod yX7_copyFrom, Cond.selects RX7 yX7_copyFrom yX7_copyFrom, Cond.initialized RX7, Cond.code yX7_copyFrom cX7_copyFrom 3 none, Cond.fieldLink RX7 9 "ShelfStages$Stages" "share" "[I", Cond.fieldLink RX7 18 "ShelfStages$Stages" "markdown" "[F", Cond.methodLink RX8 63 yX5_copyFrom, Cond.instanceMethod yX5_copyFrom, Cond.selects RX5 yX5_copyFrom yX5_copyFrom, Cond.initialized RX5, Cond.code yX5_copyFrom cX5_copyFrom 2 none, Cond.fieldLink RX5 24 "ShelfStages$Log" "size" "I", Cond.fieldLink RX5 28 "ShelfStages$Log" "next" "I", Cond.fieldLink RX5 9 "ShelfStages$Log" "kind" "[I", Cond.fieldLink RX5 15 "ShelfStages$Log" "batch" "[I", Cond.fieldLink RX5 18 "ShelfStages$Log" "units" "[I"]
def wsX9_wouldExpire_r5 : List Cond := [Cond.fieldLink RX5 21 "ShelfStages$Log" "day" "[I", Cond.methodLink RX9 206 yX8_passDays, Cond.instanceMethod yX8_passDays, Cond.selects RX8 yX8_passDays yX8_passDays, Cond.code yX8_passDays cX8_passDays 4 (some .int), Cond.methodLink RX8 164 yX0_age, Cond.instanceMethod yX0_age, Cond.selects RX0 yX0_age yX0_age, Cond.code yX0_age cX0_age 2 none, Cond.methodLink RX8 167 yX8_expire, Cond.instanceMethod yX8_expire, Cond.selects RX8 yX8_expire yX8_expire, Cond.code yX8_expire cX8_expire 4 (some .int), Cond.fieldLink RX8 106 "ShelfStages$Batches" "size" "I", Cond.fieldLink RX8 103 "ShelfStages$Batches" "shelf" "[I", Cond.fieldLink RX8 78 "ShelfStages$Batches" "left" "[I", Cond.methodLink RX8 161 yX8_waste, Cond.instanceMethod yX8_waste, Cond.selects RX8 yX8_waste yX8_waste, Cond.code yX8_waste cX8_waste 4 none, Cond.fieldLink RX8 157 "ShelfStages$Batches" "wasted" "[[I", Cond.methodLink RX8 117 yX5_append, Cond.instanceMethod yX5_append, Cond.selects RX5 yX5_append yX5_append]
def wsX9_wouldExpire_r6 : List Cond := [Cond.code yX5_append cX5_append 5 none, Cond.methodLink RX5 35 Lib.Math.min.name, Cond.methodLink RX8 171 yX8_donate, Cond.instanceMethod yX8_donate, Cond.selects RX8 yX8_donate yX8_donate, Cond.code yX8_donate cX8_donate 4 none, Cond.methodLink RX8 174 Lib.Math.min.name, Cond.methodLink RX8 98 yX8_stageOf, Cond.instanceMethod yX8_stageOf, Cond.selects RX8 yX8_stageOf yX8_stageOf, Cond.code yX8_stageOf cX8_stageOf 2 (some .int), Cond.fieldLink RX8 81 "ShelfStages$Goods" "life" "[I", Cond.fieldLink RX8 84 "ShelfStages$Batches" "good" "[I", Cond.methodLink RX8 87 yX7_reached, Cond.instanceMethod yX7_reached, Cond.selects RX7 yX7_reached yX7_reached, Cond.code yX7_reached cX7_reached 4 (some .int), Cond.methodLink RX8 179 yX8_give, Cond.instanceMethod yX8_give, Cond.selects RX8 yX8_give yX8_give, Cond.code yX8_give cX8_give 3 none, Cond.fieldLink RX8 154 "ShelfStages$Batches" "given" "[I"]
def wsX9_wouldExpire : List Cond := .code yX9_wouldExpire cX9_wouldExpire 3 (some .int) :: ((wsX9_wouldExpire_r1 ++ (wsX9_wouldExpire_r2 ++ (wsX9_wouldExpire_r3 ++ (wsX9_wouldExpire_r4 ++ (wsX9_wouldExpire_r5 ++ wsX9_wouldExpire_r6))))) ++ wsX90 ++ wsX80 ++ wsX00 ++ wsX30 ++ wsX60 ++ wsX70 ++ wsX50)
def wsX9_stageIn : List Cond := .code yX9_stageIn cX9_stageIn 6 (some .int) :: ([.fieldLink RX9 12 "ShelfStages" "now" "LShelfStages$State;", .fieldLink RX9 129 "ShelfStages$State" "batches" "LShelfStages$Batches;", .fieldLink RX9 192 "ShelfStages$Batches" "shelf" "[I", .fieldLink RX9 241 "ShelfStages$Batches" "left" "[I", .fieldLink RX9 51 "ShelfStages$State" "goods" "LShelfStages$Goods;", .fieldLink RX9 220 "ShelfStages$Goods" "life" "[I", .fieldLink RX9 235 "ShelfStages$Batches" "good" "[I", .fieldLink RX9 94 "ShelfStages$State" "stages" "LShelfStages$Stages;", .methodLink RX9 189 yX9_hasBatch, .instanceMethod yX9_hasBatch, .selects RX9 yX9_hasBatch yX9_hasBatch, .initialized RX9, .code yX9_hasBatch cX9_hasBatch 2 (some .boolean), .fieldLink RX9 133 "ShelfStages$Batches" "size" "I", .methodLink RX9 47 yX9_within, .static yX9_within, .code yX9_within cX9_within 3 (some .boolean), .methodLink RX9 317 yX7_reached, .instanceMethod yX7_reached, .selects RX7 yX7_reached yX7_reached, .initialized RX7, .code yX7_reached cX7_reached 4 (some .int), .fieldLink RX7 9 "ShelfStages$Stages" "share" "[I"] ++ wsX90 ++ wsX80 ++ wsX00 ++ wsX30 ++ wsX70)
def wsX9_event : List Cond := .code yX9_event cX9_event 5 (some .int) :: ([.fieldLink RX9 12 "ShelfStages" "now" "LShelfStages$State;", .fieldLink RX9 320 "ShelfStages$State" "log" "LShelfStages$Log;", .fieldLink RX9 324 "ShelfStages$Log" "size" "I", .fieldLink RX9 330 "ShelfStages$Log" "kind" "[I", .fieldLink RX9 333 "ShelfStages$Log" "batch" "[I", .fieldLink RX9 336 "ShelfStages$Log" "units" "[I", .fieldLink RX9 339 "ShelfStages$Log" "day" "[I", .methodLink RX9 47 yX9_within, .static yX9_within, .initialized RX9, .code yX9_within cX9_within 3 (some .boolean), .methodLink RX9 327 yX5_placeOf, .instanceMethod yX5_placeOf, .selects RX5 yX5_placeOf yX5_placeOf, .initialized RX5, .code yX5_placeOf cX5_placeOf 2 (some .int), .fieldLink RX5 28 "ShelfStages$Log" "next" "I", .methodLink RX5 41 yJ9_floorMod_7cf53, .static yJ9_floorMod_7cf53, .initialized RJ9, .code yJ9_floorMod_7cf53 cJ9_floorMod_7cf53 3 (some .int)] ++ wsX90 ++ wsX80 ++ wsX50)
def wsX9_count_r1 : List Cond := [Cond.fieldLink RX9 12 "ShelfStages" "now" "LShelfStages$State;", Cond.fieldLink RX9 129 "ShelfStages$State" "batches" "LShelfStages$Batches;", Cond.fieldLink RX9 165 "ShelfStages$State" "orders" "LShelfStages$Orders;", Cond.fieldLink RX9 172 "ShelfStages$State" "day" "I", Cond.fieldLink RX9 51 "ShelfStages$State" "goods" "LShelfStages$Goods;", Cond.fieldLink RX9 55 "ShelfStages$Goods" "size" "I", Cond.fieldLink RX9 133 "ShelfStages$Batches" "size" "I", Cond.fieldLink RX9 169 "ShelfStages$Orders" "size" "I", Cond.fieldLink RX9 192 "ShelfStages$Batches" "shelf" "[I", Cond.fieldLink RX9 226 "ShelfStages$Batches" "sold" "[I", Cond.fieldLink RX9 244 "ShelfStages$Batches" "given" "[I", Cond.fieldLink RX9 250 "ShelfStages$Batches" "wasted" "[[I", Cond.fieldLink RX9 280 "ShelfStages$Orders" "wanted" "[I", Cond.fieldLink RX9 283 "ShelfStages$Orders" "got" "[I", Cond.fieldLink RX9 297 "ShelfStages$Orders" "due" "[I", Cond.fieldLink RX9 118 "ShelfStages$State" "settings" "[I", Cond.fieldLink RX9 25 "ShelfStages" "history" "LShelfStages$History;", Cond.fieldLink RX9 209 "ShelfStages$History" "size" "I", Cond.fieldLink RX9 140 "ShelfStages" "textLength" "I", Cond.methodLink RX9 340 yX0_sum, Cond.instanceMethod yX0_sum, Cond.selects RX0 yX0_sum yX0_sum, Cond.initialized RX0, Cond.code yX0_sum cX0_sum 4 (some .int)]
def wsX9_count_r2 : List Cond := [Cond.fieldLink RX0 38 "ShelfStages$Batches" "size" "I", Cond.methodLink RX9 344 yX0_wastedOfAll, Cond.instanceMethod yX0_wastedOfAll, Cond.selects RX0 yX0_wastedOfAll yX0_wastedOfAll, Cond.code yX0_wastedOfAll cX0_wastedOfAll 1 (some .int), Cond.fieldLink RX0 35 "ShelfStages$Batches" "wasted" "[[I", Cond.methodLink RX0 46 yX0_sum, Cond.methodLink RX9 347 yX6_sum, Cond.instanceMethod yX6_sum, Cond.selects RX6 yX6_sum yX6_sum, Cond.initialized RX6, Cond.code yX6_sum cX6_sum 4 (some .int), Cond.fieldLink RX6 48 "ShelfStages$Orders" "size" "I", Cond.methodLink RX9 348 yX6_refused, Cond.instanceMethod yX6_refused, Cond.selects RX6 yX6_refused yX6_refused, Cond.code yX6_refused cX6_refused 3 (some .int), Cond.fieldLink RX6 18 "ShelfStages$Orders" "got" "[I"]
def wsX9_count : List Cond := .code yX9_count cX9_count 4 (some .int) :: ((wsX9_count_r1 ++ wsX9_count_r2) ++ wsX90 ++ wsX80 ++ wsX30 ++ wsX00 ++ wsX60 ++ wsX40)
def wsJ9_min_7cf53 : List Cond := .code yJ9_min_7cf53 cJ9_min_7cf53 2 (some .int) :: ([])
theorem inJ9 : ∀ w ∈ wsJ90, w ∈ lw_tbl := by decide +kernel
theorem inJ10 : ∀ w ∈ wsJ100, w ∈ lw_tbl := by decide +kernel
theorem dX0_init_0 : decode cX0_init 0 = .ok (.aload_n 0, 1) := by decide +kernel
theorem dX0_init_1 : decode cX0_init 1 = .ok (.invokespecial 3, 3) := by decide +kernel
theorem dX0_init_4 : decode cX0_init 4 = .ok (.aload_n 0, 1) := by decide +kernel
theorem dX0_init_5 : decode cX0_init 5 = .ok (.bipush 40, 2) := by decide +kernel
theorem dX0_init_7 : decode cX0_init 7 = .ok (.newarray .int, 2) := by decide +kernel
theorem dX0_init_9 : decode cX0_init 9 = .ok (.putfield 9, 3) := by decide +kernel
theorem dX0_init_12 : decode cX0_init 12 = .ok (.aload_n 0, 1) := by decide +kernel
theorem dX0_init_13 : decode cX0_init 13 = .ok (.bipush 40, 2) := by decide +kernel
theorem dX0_init_15 : decode cX0_init 15 = .ok (.newarray .int, 2) := by decide +kernel
theorem dX0_init_17 : decode cX0_init 17 = .ok (.putfield 15, 3) := by decide +kernel
theorem dX0_init_20 : decode cX0_init 20 = .ok (.aload_n 0, 1) := by decide +kernel
theorem dX0_init_21 : decode cX0_init 21 = .ok (.bipush 40, 2) := by decide +kernel
theorem dX0_init_23 : decode cX0_init 23 = .ok (.newarray .int, 2) := by decide +kernel
theorem dX0_init_25 : decode cX0_init 25 = .ok (.putfield 18, 3) := by decide +kernel
theorem dX0_init_28 : decode cX0_init 28 = .ok (.aload_n 0, 1) := by decide +kernel
theorem dX0_init_29 : decode cX0_init 29 = .ok (.bipush 40, 2) := by decide +kernel
theorem dX0_init_31 : decode cX0_init 31 = .ok (.newarray .int, 2) := by decide +kernel
theorem dX0_init_33 : decode cX0_init 33 = .ok (.putfield 21, 3) := by decide +kernel
theorem dX0_init_36 : decode cX0_init 36 = .ok (.aload_n 0, 1) := by decide +kernel
theorem dX0_init_37 : decode cX0_init 37 = .ok (.bipush 40, 2) := by decide +kernel
theorem dX0_init_39 : decode cX0_init 39 = .ok (.newarray .int, 2) := by decide +kernel
theorem dX0_init_41 : decode cX0_init 41 = .ok (.putfield 24, 3) := by decide +kernel
theorem dX0_init_44 : decode cX0_init 44 = .ok (.aload_n 0, 1) := by decide +kernel
theorem dX0_init_45 : decode cX0_init 45 = .ok (.bipush 40, 2) := by decide +kernel
theorem dX0_init_47 : decode cX0_init 47 = .ok (.newarray .int, 2) := by decide +kernel
theorem dX0_init_49 : decode cX0_init 49 = .ok (.putfield 27, 3) := by decide +kernel
theorem dX0_init_52 : decode cX0_init 52 = .ok (.aload_n 0, 1) := by decide +kernel
theorem dX0_init_53 : decode cX0_init 53 = .ok (.bipush 40, 2) := by decide +kernel
theorem dX0_init_55 : decode cX0_init 55 = .ok (.newarray .int, 2) := by decide +kernel
theorem dX0_init_57 : decode cX0_init 57 = .ok (.putfield 30, 3) := by decide +kernel
theorem dX0_init_60 : decode cX0_init 60 = .ok (.aload_n 0, 1) := by decide +kernel
theorem dX0_init_61 : decode cX0_init 61 = .ok (.iconst 3, 1) := by decide +kernel
theorem dX0_init_62 : decode cX0_init 62 = .ok (.bipush 40, 2) := by decide +kernel
theorem dX0_init_64 : decode cX0_init 64 = .ok (.multianewarray 33 2, 4) := by decide +kernel
theorem dX0_init_68 : decode cX0_init 68 = .ok (.putfield 35, 3) := by decide +kernel
theorem dX0_init_71 : decode cX0_init 71 = .ok (.return_, 1) := by decide +kernel
set_option maxRecDepth 20000 in
theorem ggX0_copyFrom_X9_copyRow : GoodIn wsX0_copyFrom wsX9_copyRow := goodIn_r _ [12, 13, 14, 15, 16, 17, 18, 19, 20] (by decide +kernel) (by decide +kernel)
set_option maxRecDepth 20000 in
theorem gX0_copyFrom_X9_copyRow_n42 : GoodIn wsX0_copyFrom (wsX9_copyRow) := ggX0_copyFrom_X9_copyRow
theorem dX0_copyFrom_0 : decode cX0_copyFrom 0 = .ok (.aload_n 0, 1) := by decide +kernel
theorem dX0_copyFrom_1 : decode cX0_copyFrom 1 = .ok (.aload_n 1, 1) := by decide +kernel
theorem dX0_copyFrom_2 : decode cX0_copyFrom 2 = .ok (.getfield 38, 3) := by decide +kernel
theorem dX0_copyFrom_5 : decode cX0_copyFrom 5 = .ok (.putfield 38, 3) := by decide +kernel
theorem dX0_copyFrom_8 : decode cX0_copyFrom 8 = .ok (.aload_n 1, 1) := by decide +kernel
theorem dX0_copyFrom_9 : decode cX0_copyFrom 9 = .ok (.getfield 9, 3) := by decide +kernel
theorem dX0_copyFrom_12 : decode cX0_copyFrom 12 = .ok (.aload_n 0, 1) := by decide +kernel
theorem dX0_copyFrom_13 : decode cX0_copyFrom 13 = .ok (.getfield 9, 3) := by decide +kernel
theorem dX0_copyFrom_16 : decode cX0_copyFrom 16 = .ok (.invokestatic 42, 3) := by decide +kernel
theorem dX0_copyFrom_19 : decode cX0_copyFrom 19 = .ok (.aload_n 1, 1) := by decide +kernel
theorem dX0_copyFrom_20 : decode cX0_copyFrom 20 = .ok (.getfield 15, 3) := by decide +kernel
theorem dX0_copyFrom_23 : decode cX0_copyFrom 23 = .ok (.aload_n 0, 1) := by decide +kernel
theorem dX0_copyFrom_24 : decode cX0_copyFrom 24 = .ok (.getfield 15, 3) := by decide +kernel
theorem dX0_copyFrom_27 : decode cX0_copyFrom 27 = .ok (.invokestatic 42, 3) := by decide +kernel
theorem dX0_copyFrom_30 : decode cX0_copyFrom 30 = .ok (.aload_n 1, 1) := by decide +kernel
theorem dX0_copyFrom_31 : decode cX0_copyFrom 31 = .ok (.getfield 18, 3) := by decide +kernel
theorem dX0_copyFrom_34 : decode cX0_copyFrom 34 = .ok (.aload_n 0, 1) := by decide +kernel
theorem dX0_copyFrom_35 : decode cX0_copyFrom 35 = .ok (.getfield 18, 3) := by decide +kernel
theorem dX0_copyFrom_38 : decode cX0_copyFrom 38 = .ok (.invokestatic 42, 3) := by decide +kernel
theorem dX0_copyFrom_41 : decode cX0_copyFrom 41 = .ok (.aload_n 1, 1) := by decide +kernel
theorem dX0_copyFrom_42 : decode cX0_copyFrom 42 = .ok (.getfield 21, 3) := by decide +kernel
theorem dX0_copyFrom_45 : decode cX0_copyFrom 45 = .ok (.aload_n 0, 1) := by decide +kernel
theorem dX0_copyFrom_46 : decode cX0_copyFrom 46 = .ok (.getfield 21, 3) := by decide +kernel
theorem dX0_copyFrom_49 : decode cX0_copyFrom 49 = .ok (.invokestatic 42, 3) := by decide +kernel
theorem dX0_copyFrom_52 : decode cX0_copyFrom 52 = .ok (.aload_n 1, 1) := by decide +kernel
theorem dX0_copyFrom_53 : decode cX0_copyFrom 53 = .ok (.getfield 24, 3) := by decide +kernel
theorem dX0_copyFrom_56 : decode cX0_copyFrom 56 = .ok (.aload_n 0, 1) := by decide +kernel
theorem dX0_copyFrom_57 : decode cX0_copyFrom 57 = .ok (.getfield 24, 3) := by decide +kernel
theorem dX0_copyFrom_60 : decode cX0_copyFrom 60 = .ok (.invokestatic 42, 3) := by decide +kernel
theorem dX0_copyFrom_63 : decode cX0_copyFrom 63 = .ok (.aload_n 1, 1) := by decide +kernel
theorem dX0_copyFrom_64 : decode cX0_copyFrom 64 = .ok (.getfield 27, 3) := by decide +kernel
theorem dX0_copyFrom_67 : decode cX0_copyFrom 67 = .ok (.aload_n 0, 1) := by decide +kernel
theorem dX0_copyFrom_68 : decode cX0_copyFrom 68 = .ok (.getfield 27, 3) := by decide +kernel
theorem dX0_copyFrom_71 : decode cX0_copyFrom 71 = .ok (.invokestatic 42, 3) := by decide +kernel
theorem dX0_copyFrom_74 : decode cX0_copyFrom 74 = .ok (.aload_n 1, 1) := by decide +kernel
theorem dX0_copyFrom_75 : decode cX0_copyFrom 75 = .ok (.getfield 30, 3) := by decide +kernel
theorem dX0_copyFrom_78 : decode cX0_copyFrom 78 = .ok (.aload_n 0, 1) := by decide +kernel
theorem dX0_copyFrom_79 : decode cX0_copyFrom 79 = .ok (.getfield 30, 3) := by decide +kernel
theorem dX0_copyFrom_82 : decode cX0_copyFrom 82 = .ok (.invokestatic 42, 3) := by decide +kernel
theorem dX0_copyFrom_85 : decode cX0_copyFrom 85 = .ok (.iconst 0, 1) := by decide +kernel
theorem dX0_copyFrom_86 : decode cX0_copyFrom 86 = .ok (.istore_n 2, 1) := by decide +kernel
theorem dX0_copyFrom_87 : decode cX0_copyFrom 87 = .ok (.iload_n 2, 1) := by decide +kernel
theorem dX0_copyFrom_88 : decode cX0_copyFrom 88 = .ok (.iconst 3, 1) := by decide +kernel
theorem dX0_copyFrom_89 : decode cX0_copyFrom 89 = .ok (.if_icmp .ge 24, 3) := by decide +kernel
theorem dX0_copyFrom_92 : decode cX0_copyFrom 92 = .ok (.aload_n 1, 1) := by decide +kernel
theorem dX0_copyFrom_93 : decode cX0_copyFrom 93 = .ok (.getfield 35, 3) := by decide +kernel
theorem dX0_copyFrom_96 : decode cX0_copyFrom 96 = .ok (.iload_n 2, 1) := by decide +kernel
theorem dX0_copyFrom_97 : decode cX0_copyFrom 97 = .ok (.aaload, 1) := by decide +kernel
theorem dX0_copyFrom_98 : decode cX0_copyFrom 98 = .ok (.aload_n 0, 1) := by decide +kernel
theorem dX0_copyFrom_99 : decode cX0_copyFrom 99 = .ok (.getfield 35, 3) := by decide +kernel
theorem dX0_copyFrom_102 : decode cX0_copyFrom 102 = .ok (.iload_n 2, 1) := by decide +kernel
theorem dX0_copyFrom_103 : decode cX0_copyFrom 103 = .ok (.aaload, 1) := by decide +kernel
theorem dX0_copyFrom_104 : decode cX0_copyFrom 104 = .ok (.invokestatic 42, 3) := by decide +kernel
theorem dX0_copyFrom_107 : decode cX0_copyFrom 107 = .ok (.iinc 2 1, 3) := by decide +kernel
theorem dX0_copyFrom_110 : decode cX0_copyFrom 110 = .ok (.goto (-23), 3) := by decide +kernel
theorem dX0_copyFrom_113 : decode cX0_copyFrom 113 = .ok (.return_, 1) := by decide +kernel
theorem dX0_append_0 : decode cX0_append 0 = .ok (.aload_n 0, 1) := by decide +kernel
theorem dX0_append_1 : decode cX0_append 1 = .ok (.getfield 38, 3) := by decide +kernel
theorem dX0_append_4 : decode cX0_append 4 = .ok (.istore 4, 2) := by decide +kernel
theorem dX0_append_6 : decode cX0_append 6 = .ok (.aload_n 0, 1) := by decide +kernel
theorem dX0_append_7 : decode cX0_append 7 = .ok (.getfield 9, 3) := by decide +kernel
theorem dX0_append_10 : decode cX0_append 10 = .ok (.iload 4, 2) := by decide +kernel
theorem dX0_append_12 : decode cX0_append 12 = .ok (.iload_n 1, 1) := by decide +kernel
theorem dX0_append_13 : decode cX0_append 13 = .ok (.iastore, 1) := by decide +kernel
theorem dX0_append_14 : decode cX0_append 14 = .ok (.aload_n 0, 1) := by decide +kernel
theorem dX0_append_15 : decode cX0_append 15 = .ok (.getfield 15, 3) := by decide +kernel
theorem dX0_append_18 : decode cX0_append 18 = .ok (.iload 4, 2) := by decide +kernel
theorem dX0_append_20 : decode cX0_append 20 = .ok (.iload_n 2, 1) := by decide +kernel
theorem dX0_append_21 : decode cX0_append 21 = .ok (.iastore, 1) := by decide +kernel
theorem dX0_append_22 : decode cX0_append 22 = .ok (.aload_n 0, 1) := by decide +kernel
theorem dX0_append_23 : decode cX0_append 23 = .ok (.getfield 18, 3) := by decide +kernel
theorem dX0_append_26 : decode cX0_append 26 = .ok (.iload 4, 2) := by decide +kernel
theorem dX0_append_28 : decode cX0_append 28 = .ok (.iload_n 3, 1) := by decide +kernel
theorem dX0_append_29 : decode cX0_append 29 = .ok (.iastore, 1) := by decide +kernel
theorem dX0_append_30 : decode cX0_append 30 = .ok (.aload_n 0, 1) := by decide +kernel
theorem dX0_append_31 : decode cX0_append 31 = .ok (.getfield 21, 3) := by decide +kernel
theorem dX0_append_34 : decode cX0_append 34 = .ok (.iload 4, 2) := by decide +kernel
theorem dX0_append_36 : decode cX0_append 36 = .ok (.iload_n 2, 1) := by decide +kernel
theorem dX0_append_37 : decode cX0_append 37 = .ok (.iastore, 1) := by decide +kernel
theorem dX0_append_38 : decode cX0_append 38 = .ok (.aload_n 0, 1) := by decide +kernel
theorem dX0_append_39 : decode cX0_append 39 = .ok (.dup, 1) := by decide +kernel
theorem dX0_append_40 : decode cX0_append 40 = .ok (.getfield 38, 3) := by decide +kernel
theorem dX0_append_43 : decode cX0_append 43 = .ok (.iconst 1, 1) := by decide +kernel
theorem dX0_append_44 : decode cX0_append 44 = .ok (.iadd, 1) := by decide +kernel
theorem dX0_append_45 : decode cX0_append 45 = .ok (.putfield 38, 3) := by decide +kernel
theorem dX0_append_48 : decode cX0_append 48 = .ok (.iload 4, 2) := by decide +kernel
theorem dX0_append_50 : decode cX0_append 50 = .ok (.ireturn, 1) := by decide +kernel
theorem dX0_age_0 : decode cX0_age 0 = .ok (.iconst 0, 1) := by decide +kernel
theorem dX0_age_1 : decode cX0_age 1 = .ok (.istore_n 1, 1) := by decide +kernel
theorem dX0_age_2 : decode cX0_age 2 = .ok (.iload_n 1, 1) := by decide +kernel
theorem dX0_age_3 : decode cX0_age 3 = .ok (.aload_n 0, 1) := by decide +kernel
theorem dX0_age_4 : decode cX0_age 4 = .ok (.getfield 38, 3) := by decide +kernel
theorem dX0_age_7 : decode cX0_age 7 = .ok (.if_icmp .ge 28, 3) := by decide +kernel
theorem dX0_age_10 : decode cX0_age 10 = .ok (.aload_n 0, 1) := by decide +kernel
theorem dX0_age_11 : decode cX0_age 11 = .ok (.getfield 21, 3) := by decide +kernel
theorem dX0_age_14 : decode cX0_age 14 = .ok (.iload_n 1, 1) := by decide +kernel
theorem dX0_age_15 : decode cX0_age 15 = .ok (.iaload, 1) := by decide +kernel
theorem dX0_age_16 : decode cX0_age 16 = .ok (.ifCond .le 13, 3) := by decide +kernel
theorem dX0_age_19 : decode cX0_age 19 = .ok (.aload_n 0, 1) := by decide +kernel
theorem dX0_age_20 : decode cX0_age 20 = .ok (.getfield 18, 3) := by decide +kernel
theorem dX0_age_23 : decode cX0_age 23 = .ok (.iload_n 1, 1) := by decide +kernel
theorem dX0_age_24 : decode cX0_age 24 = .ok (.dup2, 1) := by decide +kernel
theorem dX0_age_25 : decode cX0_age 25 = .ok (.iaload, 1) := by decide +kernel
theorem dX0_age_26 : decode cX0_age 26 = .ok (.iconst 1, 1) := by decide +kernel
theorem dX0_age_27 : decode cX0_age 27 = .ok (.isub, 1) := by decide +kernel
theorem dX0_age_28 : decode cX0_age 28 = .ok (.iastore, 1) := by decide +kernel
theorem dX0_age_29 : decode cX0_age 29 = .ok (.iinc 1 1, 3) := by decide +kernel
theorem dX0_age_32 : decode cX0_age 32 = .ok (.goto (-30), 3) := by decide +kernel
theorem dX0_age_35 : decode cX0_age 35 = .ok (.return_, 1) := by decide +kernel
theorem dX0_wastedOf_0 : decode cX0_wastedOf 0 = .ok (.aload_n 0, 1) := by decide +kernel
theorem dX0_wastedOf_1 : decode cX0_wastedOf 1 = .ok (.getfield 35, 3) := by decide +kernel
theorem dX0_wastedOf_4 : decode cX0_wastedOf 4 = .ok (.iconst 0, 1) := by decide +kernel
theorem dX0_wastedOf_5 : decode cX0_wastedOf 5 = .ok (.aaload, 1) := by decide +kernel
theorem dX0_wastedOf_6 : decode cX0_wastedOf 6 = .ok (.iload_n 1, 1) := by decide +kernel
theorem dX0_wastedOf_7 : decode cX0_wastedOf 7 = .ok (.iaload, 1) := by decide +kernel
theorem dX0_wastedOf_8 : decode cX0_wastedOf 8 = .ok (.aload_n 0, 1) := by decide +kernel
theorem dX0_wastedOf_9 : decode cX0_wastedOf 9 = .ok (.getfield 35, 3) := by decide +kernel
theorem dX0_wastedOf_12 : decode cX0_wastedOf 12 = .ok (.iconst 1, 1) := by decide +kernel
theorem dX0_wastedOf_13 : decode cX0_wastedOf 13 = .ok (.aaload, 1) := by decide +kernel
theorem dX0_wastedOf_14 : decode cX0_wastedOf 14 = .ok (.iload_n 1, 1) := by decide +kernel
theorem dX0_wastedOf_15 : decode cX0_wastedOf 15 = .ok (.iaload, 1) := by decide +kernel
theorem dX0_wastedOf_16 : decode cX0_wastedOf 16 = .ok (.iadd, 1) := by decide +kernel
theorem dX0_wastedOf_17 : decode cX0_wastedOf 17 = .ok (.aload_n 0, 1) := by decide +kernel
theorem dX0_wastedOf_18 : decode cX0_wastedOf 18 = .ok (.getfield 35, 3) := by decide +kernel
theorem dX0_wastedOf_21 : decode cX0_wastedOf 21 = .ok (.iconst 2, 1) := by decide +kernel
theorem dX0_wastedOf_22 : decode cX0_wastedOf 22 = .ok (.aaload, 1) := by decide +kernel
theorem dX0_wastedOf_23 : decode cX0_wastedOf 23 = .ok (.iload_n 1, 1) := by decide +kernel
theorem dX0_wastedOf_24 : decode cX0_wastedOf 24 = .ok (.iaload, 1) := by decide +kernel
theorem dX0_wastedOf_25 : decode cX0_wastedOf 25 = .ok (.iadd, 1) := by decide +kernel
theorem dX0_wastedOf_26 : decode cX0_wastedOf 26 = .ok (.ireturn, 1) := by decide +kernel
set_option maxRecDepth 20000 in
theorem ggX0_wastedOfAll_X0_sum : GoodIn wsX0_wastedOfAll wsX0_sum := goodIn_r _ [6, 7, 8, 9, 10, 11, 12, 13, 14, 15, 16] (by decide +kernel) (by decide +kernel)
set_option maxRecDepth 20000 in
theorem gX0_wastedOfAll_X0_sum : GoodIn wsX0_wastedOfAll (wsV RX0 46 RX0 yX0_sum wsX0_sum) := goodIn_app (goodIn_of _ (by decide +kernel)) ggX0_wastedOfAll_X0_sum
theorem dX0_wastedOfAll_0 : decode cX0_wastedOfAll 0 = .ok (.aload_n 0, 1) := by decide +kernel
theorem dX0_wastedOfAll_1 : decode cX0_wastedOfAll 1 = .ok (.aload_n 0, 1) := by decide +kernel
theorem dX0_wastedOfAll_2 : decode cX0_wastedOfAll 2 = .ok (.getfield 35, 3) := by decide +kernel
theorem dX0_wastedOfAll_5 : decode cX0_wastedOfAll 5 = .ok (.iconst 0, 1) := by decide +kernel
theorem dX0_wastedOfAll_6 : decode cX0_wastedOfAll 6 = .ok (.aaload, 1) := by decide +kernel
theorem dX0_wastedOfAll_7 : decode cX0_wastedOfAll 7 = .ok (.invokevirtual 46, 3) := by decide +kernel
theorem dX0_wastedOfAll_10 : decode cX0_wastedOfAll 10 = .ok (.aload_n 0, 1) := by decide +kernel
theorem dX0_wastedOfAll_11 : decode cX0_wastedOfAll 11 = .ok (.aload_n 0, 1) := by decide +kernel
theorem dX0_wastedOfAll_12 : decode cX0_wastedOfAll 12 = .ok (.getfield 35, 3) := by decide +kernel
theorem dX0_wastedOfAll_15 : decode cX0_wastedOfAll 15 = .ok (.iconst 1, 1) := by decide +kernel
theorem dX0_wastedOfAll_16 : decode cX0_wastedOfAll 16 = .ok (.aaload, 1) := by decide +kernel
theorem dX0_wastedOfAll_17 : decode cX0_wastedOfAll 17 = .ok (.invokevirtual 46, 3) := by decide +kernel
theorem dX0_wastedOfAll_20 : decode cX0_wastedOfAll 20 = .ok (.iadd, 1) := by decide +kernel
theorem dX0_wastedOfAll_21 : decode cX0_wastedOfAll 21 = .ok (.aload_n 0, 1) := by decide +kernel
theorem dX0_wastedOfAll_22 : decode cX0_wastedOfAll 22 = .ok (.aload_n 0, 1) := by decide +kernel
theorem dX0_wastedOfAll_23 : decode cX0_wastedOfAll 23 = .ok (.getfield 35, 3) := by decide +kernel
theorem dX0_wastedOfAll_26 : decode cX0_wastedOfAll 26 = .ok (.iconst 2, 1) := by decide +kernel
theorem dX0_wastedOfAll_27 : decode cX0_wastedOfAll 27 = .ok (.aaload, 1) := by decide +kernel
theorem dX0_wastedOfAll_28 : decode cX0_wastedOfAll 28 = .ok (.invokevirtual 46, 3) := by decide +kernel
theorem dX0_wastedOfAll_31 : decode cX0_wastedOfAll 31 = .ok (.iadd, 1) := by decide +kernel
theorem dX0_wastedOfAll_32 : decode cX0_wastedOfAll 32 = .ok (.ireturn, 1) := by decide +kernel
theorem dX0_sum_0 : decode cX0_sum 0 = .ok (.iconst 0, 1) := by decide +kernel
theorem dX0_sum_1 : decode cX0_sum 1 = .ok (.istore_n 2, 1) := by decide +kernel
theorem dX0_sum_2 : decode cX0_sum 2 = .ok (.iconst 0, 1) := by decide +kernel
theorem dX0_sum_3 : decode cX0_sum 3 = .ok (.istore_n 3, 1) := by decide +kernel
theorem dX0_sum_4 : decode cX0_sum 4 = .ok (.iload_n 3, 1) := by decide +kernel
theorem dX0_sum_5 : decode cX0_sum 5 = .ok (.aload_n 0, 1) := by decide +kernel
theorem dX0_sum_6 : decode cX0_sum 6 = .ok (.getfield 38, 3) := by decide +kernel
theorem dX0_sum_9 : decode cX0_sum 9 = .ok (.if_icmp .ge 15, 3) := by decide +kernel
theorem dX0_sum_12 : decode cX0_sum 12 = .ok (.iload_n 2, 1) := by decide +kernel
theorem dX0_sum_13 : decode cX0_sum 13 = .ok (.aload_n 1, 1) := by decide +kernel
theorem dX0_sum_14 : decode cX0_sum 14 = .ok (.iload_n 3, 1) := by decide +kernel
theorem dX0_sum_15 : decode cX0_sum 15 = .ok (.iaload, 1) := by decide +kernel
theorem dX0_sum_16 : decode cX0_sum 16 = .ok (.iadd, 1) := by decide +kernel
theorem dX0_sum_17 : decode cX0_sum 17 = .ok (.istore_n 2, 1) := by decide +kernel
theorem dX0_sum_18 : decode cX0_sum 18 = .ok (.iinc 3 1, 3) := by decide +kernel
theorem dX0_sum_21 : decode cX0_sum 21 = .ok (.goto (-17), 3) := by decide +kernel
theorem dX0_sum_24 : decode cX0_sum 24 = .ok (.iload_n 2, 1) := by decide +kernel
theorem dX0_sum_25 : decode cX0_sum 25 = .ok (.ireturn, 1) := by decide +kernel
theorem dX0_sumOfGood_0 : decode cX0_sumOfGood 0 = .ok (.iconst 0, 1) := by decide +kernel
theorem dX0_sumOfGood_1 : decode cX0_sumOfGood 1 = .ok (.istore_n 3, 1) := by decide +kernel
theorem dX0_sumOfGood_2 : decode cX0_sumOfGood 2 = .ok (.iconst 0, 1) := by decide +kernel
theorem dX0_sumOfGood_3 : decode cX0_sumOfGood 3 = .ok (.istore 4, 2) := by decide +kernel
theorem dX0_sumOfGood_5 : decode cX0_sumOfGood 5 = .ok (.iload 4, 2) := by decide +kernel
theorem dX0_sumOfGood_7 : decode cX0_sumOfGood 7 = .ok (.aload_n 0, 1) := by decide +kernel
theorem dX0_sumOfGood_8 : decode cX0_sumOfGood 8 = .ok (.getfield 38, 3) := by decide +kernel
theorem dX0_sumOfGood_11 : decode cX0_sumOfGood 11 = .ok (.if_icmp .ge 27, 3) := by decide +kernel
theorem dX0_sumOfGood_14 : decode cX0_sumOfGood 14 = .ok (.aload_n 0, 1) := by decide +kernel
theorem dX0_sumOfGood_15 : decode cX0_sumOfGood 15 = .ok (.getfield 9, 3) := by decide +kernel
theorem dX0_sumOfGood_18 : decode cX0_sumOfGood 18 = .ok (.iload 4, 2) := by decide +kernel
theorem dX0_sumOfGood_20 : decode cX0_sumOfGood 20 = .ok (.iaload, 1) := by decide +kernel
theorem dX0_sumOfGood_21 : decode cX0_sumOfGood 21 = .ok (.iload_n 2, 1) := by decide +kernel
theorem dX0_sumOfGood_22 : decode cX0_sumOfGood 22 = .ok (.if_icmp .ne 10, 3) := by decide +kernel
theorem dX0_sumOfGood_25 : decode cX0_sumOfGood 25 = .ok (.iload_n 3, 1) := by decide +kernel
theorem dX0_sumOfGood_26 : decode cX0_sumOfGood 26 = .ok (.aload_n 1, 1) := by decide +kernel
theorem dX0_sumOfGood_27 : decode cX0_sumOfGood 27 = .ok (.iload 4, 2) := by decide +kernel
theorem dX0_sumOfGood_29 : decode cX0_sumOfGood 29 = .ok (.iaload, 1) := by decide +kernel
theorem dX0_sumOfGood_30 : decode cX0_sumOfGood 30 = .ok (.iadd, 1) := by decide +kernel
theorem dX0_sumOfGood_31 : decode cX0_sumOfGood 31 = .ok (.istore_n 3, 1) := by decide +kernel
theorem dX0_sumOfGood_32 : decode cX0_sumOfGood 32 = .ok (.iinc 4 1, 3) := by decide +kernel
theorem dX0_sumOfGood_35 : decode cX0_sumOfGood 35 = .ok (.goto (-30), 3) := by decide +kernel
theorem dX0_sumOfGood_38 : decode cX0_sumOfGood 38 = .ok (.iload_n 3, 1) := by decide +kernel
theorem dX0_sumOfGood_39 : decode cX0_sumOfGood 39 = .ok (.ireturn, 1) := by decide +kernel
theorem dX0_countOfGood_0 : decode cX0_countOfGood 0 = .ok (.iconst 0, 1) := by decide +kernel
theorem dX0_countOfGood_1 : decode cX0_countOfGood 1 = .ok (.istore_n 2, 1) := by decide +kernel
theorem dX0_countOfGood_2 : decode cX0_countOfGood 2 = .ok (.iconst 0, 1) := by decide +kernel
theorem dX0_countOfGood_3 : decode cX0_countOfGood 3 = .ok (.istore_n 3, 1) := by decide +kernel
theorem dX0_countOfGood_4 : decode cX0_countOfGood 4 = .ok (.iload_n 3, 1) := by decide +kernel
theorem dX0_countOfGood_5 : decode cX0_countOfGood 5 = .ok (.aload_n 0, 1) := by decide +kernel
theorem dX0_countOfGood_6 : decode cX0_countOfGood 6 = .ok (.getfield 38, 3) := by decide +kernel
theorem dX0_countOfGood_9 : decode cX0_countOfGood 9 = .ok (.if_icmp .ge 22, 3) := by decide +kernel
theorem dX0_countOfGood_12 : decode cX0_countOfGood 12 = .ok (.aload_n 0, 1) := by decide +kernel
theorem dX0_countOfGood_13 : decode cX0_countOfGood 13 = .ok (.getfield 9, 3) := by decide +kernel
theorem dX0_countOfGood_16 : decode cX0_countOfGood 16 = .ok (.iload_n 3, 1) := by decide +kernel
theorem dX0_countOfGood_17 : decode cX0_countOfGood 17 = .ok (.iaload, 1) := by decide +kernel
theorem dX0_countOfGood_18 : decode cX0_countOfGood 18 = .ok (.iload_n 1, 1) := by decide +kernel
theorem dX0_countOfGood_19 : decode cX0_countOfGood 19 = .ok (.if_icmp .ne 6, 3) := by decide +kernel
theorem dX0_countOfGood_22 : decode cX0_countOfGood 22 = .ok (.iinc 2 1, 3) := by decide +kernel
theorem dX0_countOfGood_25 : decode cX0_countOfGood 25 = .ok (.iinc 3 1, 3) := by decide +kernel
theorem dX0_countOfGood_28 : decode cX0_countOfGood 28 = .ok (.goto (-24), 3) := by decide +kernel
theorem dX0_countOfGood_31 : decode cX0_countOfGood 31 = .ok (.iload_n 2, 1) := by decide +kernel
theorem dX0_countOfGood_32 : decode cX0_countOfGood 32 = .ok (.ireturn, 1) := by decide +kernel
theorem dX1_init_0 : decode cX1_init 0 = .ok (.aload_n 0, 1) := by decide +kernel
theorem dX1_init_1 : decode cX1_init 1 = .ok (.invokespecial 3, 3) := by decide +kernel
theorem dX1_init_4 : decode cX1_init 4 = .ok (.aload_n 0, 1) := by decide +kernel
theorem dX1_init_5 : decode cX1_init 5 = .ok (.iconst 3, 1) := by decide +kernel
theorem dX1_init_6 : decode cX1_init 6 = .ok (.bipush 16, 2) := by decide +kernel
theorem dX1_init_8 : decode cX1_init 8 = .ok (.multianewarray 11 2, 4) := by decide +kernel
theorem dX1_init_12 : decode cX1_init 12 = .ok (.putfield 13, 3) := by decide +kernel
theorem dX1_init_15 : decode cX1_init 15 = .ok (.return_, 1) := by decide +kernel
theorem dX2_init_0 : decode cX2_init 0 = .ok (.aload_n 0, 1) := by decide +kernel
theorem dX2_init_1 : decode cX2_init 1 = .ok (.invokespecial 3, 3) := by decide +kernel
theorem dX2_init_4 : decode cX2_init 4 = .ok (.aload_n 0, 1) := by decide +kernel
theorem dX2_init_5 : decode cX2_init 5 = .ok (.bipush 40, 2) := by decide +kernel
theorem dX2_init_7 : decode cX2_init 7 = .ok (.newarray .int, 2) := by decide +kernel
theorem dX2_init_9 : decode cX2_init 9 = .ok (.putfield 9, 3) := by decide +kernel
theorem dX2_init_12 : decode cX2_init 12 = .ok (.aload_n 0, 1) := by decide +kernel
theorem dX2_init_13 : decode cX2_init 13 = .ok (.bipush 40, 2) := by decide +kernel
theorem dX2_init_15 : decode cX2_init 15 = .ok (.newarray .int, 2) := by decide +kernel
theorem dX2_init_17 : decode cX2_init 17 = .ok (.putfield 15, 3) := by decide +kernel
theorem dX2_init_20 : decode cX2_init 20 = .ok (.aload_n 0, 1) := by decide +kernel
theorem dX2_init_21 : decode cX2_init 21 = .ok (.bipush 40, 2) := by decide +kernel
theorem dX2_init_23 : decode cX2_init 23 = .ok (.newarray .int, 2) := by decide +kernel
theorem dX2_init_25 : decode cX2_init 25 = .ok (.putfield 18, 3) := by decide +kernel
theorem dX2_init_28 : decode cX2_init 28 = .ok (.aload_n 0, 1) := by decide +kernel
theorem dX2_init_29 : decode cX2_init 29 = .ok (.bipush 40, 2) := by decide +kernel
theorem dX2_init_31 : decode cX2_init 31 = .ok (.newarray .int, 2) := by decide +kernel
theorem dX2_init_33 : decode cX2_init 33 = .ok (.putfield 21, 3) := by decide +kernel
theorem dX2_init_36 : decode cX2_init 36 = .ok (.aload_n 0, 1) := by decide +kernel
theorem dX2_init_37 : decode cX2_init 37 = .ok (.bipush 40, 2) := by decide +kernel
theorem dX2_init_39 : decode cX2_init 39 = .ok (.newarray .float, 2) := by decide +kernel
theorem dX2_init_41 : decode cX2_init 41 = .ok (.putfield 24, 3) := by decide +kernel
theorem dX2_init_44 : decode cX2_init 44 = .ok (.return_, 1) := by decide +kernel
set_option maxRecDepth 20000 in
theorem ggX2_fill_X9_copyRow : GoodIn wsX2_fill wsX9_copyRow := goodIn_r _ [16, 17, 18, 19, 20, 21, 22, 23, 24] (by decide +kernel) (by decide +kernel)
set_option maxRecDepth 20000 in
theorem gX2_fill_X9_copyRow_n55 : GoodIn wsX2_fill (wsX9_copyRow) := ggX2_fill_X9_copyRow
set_option maxRecDepth 20000 in
theorem ggX2_fill_X8_priceOfUnit : GoodIn wsX2_fill wsX8_priceOfUnit := goodIn_r _ [29, 30, 31, 32, 33, 34, 35, 36, 37, 38, 39, 28, 40, 41, 42, 43, 44, 45, 46, 47, 48, 99, 100, 101, 102, 103, 104, 105, 106, 116, 117, 118, 119, 120, 107, 108, 109, 110, 111, 112, 113, 114, 115, 121, 122] (by decide +kernel) (by decide +kernel)
set_option maxRecDepth 20000 in
theorem gX2_fill_X8_priceOfUnit : GoodIn wsX2_fill (wsV RX2 60 RX8 yX8_priceOfUnit wsX8_priceOfUnit) := goodIn_app (goodIn_of _ (by decide +kernel)) ggX2_fill_X8_priceOfUnit
set_option maxRecDepth 20000 in
theorem ggX2_fill_X2_takeFrom : GoodIn wsX2_fill wsX2_takeFrom := goodIn_r _ [53, 2, 4, 8, 54, 18, 19, 20, 55, 56, 57, 52, 58, 6, 9, 59, 60, 61, 62, 63, 64, 5, 65, 66, 67, 68, 69, 10, 70, 71, 72, 73, 1, 74, 75, 76, 77, 78, 79, 80, 11, 81, 3, 88, 89, 90, 91, 92, 93, 94, 95, 96, 97, 98, 99, 100, 101, 102, 103, 104, 105, 106, 107, 108, 109, 110, 111, 112, 113, 114, 115, 116, 117, 118, 119, 120] (by decide +kernel) (by decide +kernel)
set_option maxRecDepth 20000 in
theorem gX2_fill_X2_takeFrom : GoodIn wsX2_fill (wsV RX2 64 RX2 yX2_takeFrom wsX2_takeFrom) := goodIn_app (goodIn_of _ (by decide +kernel)) ggX2_fill_X2_takeFrom
set_option maxRecDepth 20000 in
theorem ggX2_fill_X3_listedAt : GoodIn wsX2_fill wsX3_listedAt := goodIn_r _ [86, 87, 116, 117, 118, 119, 120] (by decide +kernel) (by decide +kernel)
set_option maxRecDepth 20000 in
theorem gX2_fill_X3_listedAt : GoodIn wsX2_fill (wsV RX2 77 RX3 yX3_listedAt wsX3_listedAt) := goodIn_app (goodIn_of _ (by decide +kernel)) ggX2_fill_X3_listedAt
theorem dX2_fill_0 : decode cX2_fill 0 = .ok (.aload_n 0, 1) := by decide +kernel
theorem dX2_fill_1 : decode cX2_fill 1 = .ok (.iconst 0, 1) := by decide +kernel
theorem dX2_fill_2 : decode cX2_fill 2 = .ok (.putfield 28, 3) := by decide +kernel
theorem dX2_fill_5 : decode cX2_fill 5 = .ok (.aload_n 0, 1) := by decide +kernel
theorem dX2_fill_6 : decode cX2_fill 6 = .ok (.iconst 0, 1) := by decide +kernel
theorem dX2_fill_7 : decode cX2_fill 7 = .ok (.putfield 32, 3) := by decide +kernel
theorem dX2_fill_10 : decode cX2_fill 10 = .ok (.aload_n 0, 1) := by decide +kernel
theorem dX2_fill_11 : decode cX2_fill 11 = .ok (.iload_n 2, 1) := by decide +kernel
theorem dX2_fill_12 : decode cX2_fill 12 = .ok (.putfield 35, 3) := by decide +kernel
theorem dX2_fill_15 : decode cX2_fill 15 = .ok (.aload_n 0, 1) := by decide +kernel
theorem dX2_fill_16 : decode cX2_fill 16 = .ok (.iload_n 3, 1) := by decide +kernel
theorem dX2_fill_17 : decode cX2_fill 17 = .ok (.putfield 38, 3) := by decide +kernel
theorem dX2_fill_20 : decode cX2_fill 20 = .ok (.aload_n 0, 1) := by decide +kernel
theorem dX2_fill_21 : decode cX2_fill 21 = .ok (.iload 4, 2) := by decide +kernel
theorem dX2_fill_23 : decode cX2_fill 23 = .ok (.putfield 41, 3) := by decide +kernel
theorem dX2_fill_26 : decode cX2_fill 26 = .ok (.aload_n 1, 1) := by decide +kernel
theorem dX2_fill_27 : decode cX2_fill 27 = .ok (.getfield 44, 3) := by decide +kernel
theorem dX2_fill_30 : decode cX2_fill 30 = .ok (.getfield 50, 3) := by decide +kernel
theorem dX2_fill_33 : decode cX2_fill 33 = .ok (.aload_n 0, 1) := by decide +kernel
theorem dX2_fill_34 : decode cX2_fill 34 = .ok (.getfield 21, 3) := by decide +kernel
theorem dX2_fill_37 : decode cX2_fill 37 = .ok (.invokestatic 55, 3) := by decide +kernel
theorem dX2_fill_40 : decode cX2_fill 40 = .ok (.iconst 0, 1) := by decide +kernel
theorem dX2_fill_41 : decode cX2_fill 41 = .ok (.istore 6, 2) := by decide +kernel
theorem dX2_fill_43 : decode cX2_fill 43 = .ok (.iload 6, 2) := by decide +kernel
theorem dX2_fill_45 : decode cX2_fill 45 = .ok (.aload_n 1, 1) := by decide +kernel
theorem dX2_fill_46 : decode cX2_fill 46 = .ok (.getfield 44, 3) := by decide +kernel
theorem dX2_fill_49 : decode cX2_fill 49 = .ok (.getfield 59, 3) := by decide +kernel
theorem dX2_fill_52 : decode cX2_fill 52 = .ok (.if_icmp .ge 22, 3) := by decide +kernel
theorem dX2_fill_55 : decode cX2_fill 55 = .ok (.aload_n 0, 1) := by decide +kernel
theorem dX2_fill_56 : decode cX2_fill 56 = .ok (.getfield 24, 3) := by decide +kernel
theorem dX2_fill_59 : decode cX2_fill 59 = .ok (.iload 6, 2) := by decide +kernel
theorem dX2_fill_61 : decode cX2_fill 61 = .ok (.aload_n 1, 1) := by decide +kernel
theorem dX2_fill_62 : decode cX2_fill 62 = .ok (.iload 6, 2) := by decide +kernel
theorem dX2_fill_64 : decode cX2_fill 64 = .ok (.invokevirtual 60, 3) := by decide +kernel
theorem dX2_fill_67 : decode cX2_fill 67 = .ok (.fastore, 1) := by decide +kernel
theorem dX2_fill_68 : decode cX2_fill 68 = .ok (.iinc 6 1, 3) := by decide +kernel
theorem dX2_fill_71 : decode cX2_fill 71 = .ok (.goto (-28), 3) := by decide +kernel
theorem dX2_fill_74 : decode cX2_fill 74 = .ok (.aload_n 0, 1) := by decide +kernel
theorem dX2_fill_75 : decode cX2_fill 75 = .ok (.aload_n 1, 1) := by decide +kernel
theorem dX2_fill_76 : decode cX2_fill 76 = .ok (.iload_n 2, 1) := by decide +kernel
theorem dX2_fill_77 : decode cX2_fill 77 = .ok (.invokevirtual 64, 3) := by decide +kernel
theorem dX2_fill_80 : decode cX2_fill 80 = .ok (.aload_n 0, 1) := by decide +kernel
theorem dX2_fill_81 : decode cX2_fill 81 = .ok (.getfield 32, 3) := by decide +kernel
theorem dX2_fill_84 : decode cX2_fill 84 = .ok (.istore 6, 2) := by decide +kernel
theorem dX2_fill_86 : decode cX2_fill 86 = .ok (.iload 5, 2) := by decide +kernel
theorem dX2_fill_88 : decode cX2_fill 88 = .ok (.ifCond .eq 15, 3) := by decide +kernel
theorem dX2_fill_91 : decode cX2_fill 91 = .ok (.aload_n 1, 1) := by decide +kernel
theorem dX2_fill_92 : decode cX2_fill 92 = .ok (.getfield 68, 3) := by decide +kernel
theorem dX2_fill_95 : decode cX2_fill 95 = .ok (.getfield 72, 3) := by decide +kernel
theorem dX2_fill_98 : decode cX2_fill 98 = .ok (.iload_n 2, 1) := by decide +kernel
theorem dX2_fill_99 : decode cX2_fill 99 = .ok (.iaload, 1) := by decide +kernel
theorem dX2_fill_100 : decode cX2_fill 100 = .ok (.goto 4, 3) := by decide +kernel
theorem dX2_fill_103 : decode cX2_fill 103 = .ok (.iconst 0, 1) := by decide +kernel
theorem dX2_fill_104 : decode cX2_fill 104 = .ok (.istore 7, 2) := by decide +kernel
theorem dX2_fill_106 : decode cX2_fill 106 = .ok (.iconst 0, 1) := by decide +kernel
theorem dX2_fill_107 : decode cX2_fill 107 = .ok (.istore 8, 2) := by decide +kernel
theorem dX2_fill_109 : decode cX2_fill 109 = .ok (.iload 8, 2) := by decide +kernel
theorem dX2_fill_111 : decode cX2_fill 111 = .ok (.iload 7, 2) := by decide +kernel
theorem dX2_fill_113 : decode cX2_fill 113 = .ok (.if_icmp .ge 24, 3) := by decide +kernel
theorem dX2_fill_116 : decode cX2_fill 116 = .ok (.aload_n 0, 1) := by decide +kernel
theorem dX2_fill_117 : decode cX2_fill 117 = .ok (.aload_n 1, 1) := by decide +kernel
theorem dX2_fill_118 : decode cX2_fill 118 = .ok (.aload_n 1, 1) := by decide +kernel
theorem dX2_fill_119 : decode cX2_fill 119 = .ok (.getfield 68, 3) := by decide +kernel
theorem dX2_fill_122 : decode cX2_fill 122 = .ok (.iload_n 2, 1) := by decide +kernel
theorem dX2_fill_123 : decode cX2_fill 123 = .ok (.iload 8, 2) := by decide +kernel
theorem dX2_fill_125 : decode cX2_fill 125 = .ok (.invokevirtual 77, 3) := by decide +kernel
theorem dX2_fill_128 : decode cX2_fill 128 = .ok (.invokevirtual 64, 3) := by decide +kernel
theorem dX2_fill_131 : decode cX2_fill 131 = .ok (.iinc 8 1, 3) := by decide +kernel
theorem dX2_fill_134 : decode cX2_fill 134 = .ok (.goto (-25), 3) := by decide +kernel
theorem dX2_fill_137 : decode cX2_fill 137 = .ok (.aload_n 0, 1) := by decide +kernel
theorem dX2_fill_138 : decode cX2_fill 138 = .ok (.aload_n 0, 1) := by decide +kernel
theorem dX2_fill_139 : decode cX2_fill 139 = .ok (.getfield 32, 3) := by decide +kernel
theorem dX2_fill_142 : decode cX2_fill 142 = .ok (.iload 6, 2) := by decide +kernel
theorem dX2_fill_144 : decode cX2_fill 144 = .ok (.isub, 1) := by decide +kernel
theorem dX2_fill_145 : decode cX2_fill 145 = .ok (.putfield 81, 3) := by decide +kernel
theorem dX2_fill_148 : decode cX2_fill 148 = .ok (.return_, 1) := by decide +kernel
theorem dX2_due_0 : decode cX2_due 0 = .ok (.iconst 0, 1) := by decide +kernel
theorem dX2_due_1 : decode cX2_due 1 = .ok (.istore_n 2, 1) := by decide +kernel
theorem dX2_due_2 : decode cX2_due 2 = .ok (.iconst 0, 1) := by decide +kernel
theorem dX2_due_3 : decode cX2_due 3 = .ok (.istore_n 3, 1) := by decide +kernel
theorem dX2_due_4 : decode cX2_due 4 = .ok (.iload_n 3, 1) := by decide +kernel
theorem dX2_due_5 : decode cX2_due 5 = .ok (.aload_n 0, 1) := by decide +kernel
theorem dX2_due_6 : decode cX2_due 6 = .ok (.getfield 28, 3) := by decide +kernel
theorem dX2_due_9 : decode cX2_due 9 = .ok (.if_icmp .ge 18, 3) := by decide +kernel
theorem dX2_due_12 : decode cX2_due 12 = .ok (.iload_n 2, 1) := by decide +kernel
theorem dX2_due_13 : decode cX2_due 13 = .ok (.aload_n 0, 1) := by decide +kernel
theorem dX2_due_14 : decode cX2_due 14 = .ok (.getfield 18, 3) := by decide +kernel
theorem dX2_due_17 : decode cX2_due 17 = .ok (.iload_n 3, 1) := by decide +kernel
theorem dX2_due_18 : decode cX2_due 18 = .ok (.iaload, 1) := by decide +kernel
theorem dX2_due_19 : decode cX2_due 19 = .ok (.iadd, 1) := by decide +kernel
theorem dX2_due_20 : decode cX2_due 20 = .ok (.istore_n 2, 1) := by decide +kernel
theorem dX2_due_21 : decode cX2_due 21 = .ok (.iinc 3 1, 3) := by decide +kernel
theorem dX2_due_24 : decode cX2_due 24 = .ok (.goto (-20), 3) := by decide +kernel
theorem dX2_due_27 : decode cX2_due 27 = .ok (.iload_n 2, 1) := by decide +kernel
theorem dX2_due_28 : decode cX2_due 28 = .ok (.iload_n 2, 1) := by decide +kernel
theorem dX2_due_29 : decode cX2_due 29 = .ok (.i2f, 1) := by decide +kernel
theorem dX2_due_30 : decode cX2_due 30 = .ok (.fload_n 1, 1) := by decide +kernel
theorem dX2_due_31 : decode cX2_due 31 = .ok (.fmul, 1) := by decide +kernel
theorem dX2_due_32 : decode cX2_due 32 = .ok (.ldc 84, 2) := by decide +kernel
theorem dX2_due_34 : decode cX2_due 34 = .ok (.fdiv, 1) := by decide +kernel
theorem dX2_due_35 : decode cX2_due 35 = .ok (.f2i, 1) := by decide +kernel
theorem dX2_due_36 : decode cX2_due 36 = .ok (.isub, 1) := by decide +kernel
theorem dX2_due_37 : decode cX2_due 37 = .ok (.ireturn, 1) := by decide +kernel
set_option maxRecDepth 20000 in
theorem ggX2_takeFrom_X2_nextBatch : GoodIn wsX2_takeFrom wsX2_nextBatch := goodIn_r _ [12, 13, 14, 15, 16, 17, 11, 18, 19, 3, 20, 21, 22, 23, 24, 25, 26, 27, 54, 55, 56, 57, 58, 59, 60, 61, 62, 63, 64, 65, 66, 67, 68, 69, 70, 43, 44, 45, 46, 47, 48, 49, 50, 51, 52, 53] (by decide +kernel) (by decide +kernel)
set_option maxRecDepth 20000 in
theorem gX2_takeFrom_X2_nextBatch : GoodIn wsX2_takeFrom (wsV RX2 85 RX2 yX2_nextBatch wsX2_nextBatch) := goodIn_app (goodIn_of _ (by decide +kernel)) ggX2_takeFrom_X2_nextBatch
set_option maxRecDepth 20000 in
theorem ggX2_takeFrom_X2_takePart : GoodIn wsX2_takeFrom wsX2_takePart := goodIn_r _ [31, 32, 33, 34, 35, 3, 1, 36, 37, 38, 11, 39, 40, 41, 42, 13, 19, 27, 43, 44, 45, 46, 47, 48, 49, 50, 51, 52, 53, 54, 55, 56, 57, 58, 59, 60, 61, 71, 72, 73, 74, 75, 62, 63, 64, 65, 66, 67, 68, 69, 70] (by decide +kernel) (by decide +kernel)
set_option maxRecDepth 20000 in
theorem gX2_takeFrom_X2_takePart : GoodIn wsX2_takeFrom (wsV RX2 94 RX2 yX2_takePart wsX2_takePart) := goodIn_app (goodIn_of _ (by decide +kernel)) ggX2_takeFrom_X2_takePart
theorem dX2_takeFrom_0 : decode cX2_takeFrom 0 = .ok (.iconst 0, 1) := by decide +kernel
theorem dX2_takeFrom_1 : decode cX2_takeFrom 1 = .ok (.istore_n 3, 1) := by decide +kernel
theorem dX2_takeFrom_2 : decode cX2_takeFrom 2 = .ok (.iload_n 3, 1) := by decide +kernel
theorem dX2_takeFrom_3 : decode cX2_takeFrom 3 = .ok (.bipush 40, 2) := by decide +kernel
theorem dX2_takeFrom_5 : decode cX2_takeFrom 5 = .ok (.if_icmp .ge 60, 3) := by decide +kernel
theorem dX2_takeFrom_8 : decode cX2_takeFrom 8 = .ok (.aload_n 0, 1) := by decide +kernel
theorem dX2_takeFrom_9 : decode cX2_takeFrom 9 = .ok (.getfield 32, 3) := by decide +kernel
theorem dX2_takeFrom_12 : decode cX2_takeFrom 12 = .ok (.aload_n 0, 1) := by decide +kernel
theorem dX2_takeFrom_13 : decode cX2_takeFrom 13 = .ok (.getfield 38, 3) := by decide +kernel
theorem dX2_takeFrom_16 : decode cX2_takeFrom 16 = .ok (.if_icmp .ge 49, 3) := by decide +kernel
theorem dX2_takeFrom_19 : decode cX2_takeFrom 19 = .ok (.aload_n 0, 1) := by decide +kernel
theorem dX2_takeFrom_20 : decode cX2_takeFrom 20 = .ok (.aload_n 1, 1) := by decide +kernel
theorem dX2_takeFrom_21 : decode cX2_takeFrom 21 = .ok (.iload_n 2, 1) := by decide +kernel
theorem dX2_takeFrom_22 : decode cX2_takeFrom 22 = .ok (.invokevirtual 85, 3) := by decide +kernel
theorem dX2_takeFrom_25 : decode cX2_takeFrom 25 = .ok (.istore 4, 2) := by decide +kernel
theorem dX2_takeFrom_27 : decode cX2_takeFrom 27 = .ok (.iload 4, 2) := by decide +kernel
theorem dX2_takeFrom_29 : decode cX2_takeFrom 29 = .ok (.ifCond .ge 4, 3) := by decide +kernel
theorem dX2_takeFrom_32 : decode cX2_takeFrom 32 = .ok (.return_, 1) := by decide +kernel
theorem dX2_takeFrom_33 : decode cX2_takeFrom 33 = .ok (.aload_n 0, 1) := by decide +kernel
theorem dX2_takeFrom_34 : decode cX2_takeFrom 34 = .ok (.aload_n 1, 1) := by decide +kernel
theorem dX2_takeFrom_35 : decode cX2_takeFrom 35 = .ok (.iload 4, 2) := by decide +kernel
theorem dX2_takeFrom_37 : decode cX2_takeFrom 37 = .ok (.aload_n 0, 1) := by decide +kernel
theorem dX2_takeFrom_38 : decode cX2_takeFrom 38 = .ok (.getfield 38, 3) := by decide +kernel
theorem dX2_takeFrom_41 : decode cX2_takeFrom 41 = .ok (.aload_n 0, 1) := by decide +kernel
theorem dX2_takeFrom_42 : decode cX2_takeFrom 42 = .ok (.getfield 32, 3) := by decide +kernel
theorem dX2_takeFrom_45 : decode cX2_takeFrom 45 = .ok (.isub, 1) := by decide +kernel
theorem dX2_takeFrom_46 : decode cX2_takeFrom 46 = .ok (.aload_n 0, 1) := by decide +kernel
theorem dX2_takeFrom_47 : decode cX2_takeFrom 47 = .ok (.getfield 21, 3) := by decide +kernel
theorem dX2_takeFrom_50 : decode cX2_takeFrom 50 = .ok (.iload 4, 2) := by decide +kernel
theorem dX2_takeFrom_52 : decode cX2_takeFrom 52 = .ok (.iaload, 1) := by decide +kernel
theorem dX2_takeFrom_53 : decode cX2_takeFrom 53 = .ok (.invokestatic 89, 3) := by decide +kernel
theorem dX2_takeFrom_56 : decode cX2_takeFrom 56 = .ok (.invokevirtual 94, 3) := by decide +kernel
theorem dX2_takeFrom_59 : decode cX2_takeFrom 59 = .ok (.iinc 3 1, 3) := by decide +kernel
theorem dX2_takeFrom_62 : decode cX2_takeFrom 62 = .ok (.goto (-60), 3) := by decide +kernel
theorem dX2_takeFrom_65 : decode cX2_takeFrom 65 = .ok (.return_, 1) := by decide +kernel
set_option maxRecDepth 20000 in
theorem ggX2_takePart_X2_chargedPrice : GoodIn wsX2_takePart wsX2_chargedPrice := goodIn_r _ [11, 12, 13, 14, 15, 16, 17, 29, 30, 31, 32, 33, 34, 35, 36, 37, 38, 39, 40, 41, 18, 19, 20, 21, 22, 23, 24, 25, 26, 27, 28, 42, 43, 44, 45, 46, 47, 48, 49, 50] (by decide +kernel) (by decide +kernel)
set_option maxRecDepth 20000 in
theorem gX2_takePart_X2_chargedPrice : GoodIn wsX2_takePart (wsV RX2 98 RX2 yX2_chargedPrice wsX2_chargedPrice) := goodIn_app (goodIn_of _ (by decide +kernel)) ggX2_takePart_X2_chargedPrice
theorem dX2_takePart_0 : decode cX2_takePart 0 = .ok (.aload_n 0, 1) := by decide +kernel
theorem dX2_takePart_1 : decode cX2_takePart 1 = .ok (.getfield 28, 3) := by decide +kernel
theorem dX2_takePart_4 : decode cX2_takePart 4 = .ok (.bipush 40, 2) := by decide +kernel
theorem dX2_takePart_6 : decode cX2_takePart 6 = .ok (.if_icmp .lt 4, 3) := by decide +kernel
theorem dX2_takePart_9 : decode cX2_takePart 9 = .ok (.return_, 1) := by decide +kernel
theorem dX2_takePart_10 : decode cX2_takePart 10 = .ok (.aload_n 0, 1) := by decide +kernel
theorem dX2_takePart_11 : decode cX2_takePart 11 = .ok (.getfield 9, 3) := by decide +kernel
theorem dX2_takePart_14 : decode cX2_takePart 14 = .ok (.aload_n 0, 1) := by decide +kernel
theorem dX2_takePart_15 : decode cX2_takePart 15 = .ok (.getfield 28, 3) := by decide +kernel
theorem dX2_takePart_18 : decode cX2_takePart 18 = .ok (.iload_n 2, 1) := by decide +kernel
theorem dX2_takePart_19 : decode cX2_takePart 19 = .ok (.iastore, 1) := by decide +kernel
theorem dX2_takePart_20 : decode cX2_takePart 20 = .ok (.aload_n 0, 1) := by decide +kernel
theorem dX2_takePart_21 : decode cX2_takePart 21 = .ok (.getfield 15, 3) := by decide +kernel
theorem dX2_takePart_24 : decode cX2_takePart 24 = .ok (.aload_n 0, 1) := by decide +kernel
theorem dX2_takePart_25 : decode cX2_takePart 25 = .ok (.getfield 28, 3) := by decide +kernel
theorem dX2_takePart_28 : decode cX2_takePart 28 = .ok (.iload_n 3, 1) := by decide +kernel
theorem dX2_takePart_29 : decode cX2_takePart 29 = .ok (.iastore, 1) := by decide +kernel
theorem dX2_takePart_30 : decode cX2_takePart 30 = .ok (.aload_n 0, 1) := by decide +kernel
theorem dX2_takePart_31 : decode cX2_takePart 31 = .ok (.getfield 18, 3) := by decide +kernel
theorem dX2_takePart_34 : decode cX2_takePart 34 = .ok (.aload_n 0, 1) := by decide +kernel
theorem dX2_takePart_35 : decode cX2_takePart 35 = .ok (.getfield 28, 3) := by decide +kernel
theorem dX2_takePart_38 : decode cX2_takePart 38 = .ok (.iload_n 3, 1) := by decide +kernel
theorem dX2_takePart_39 : decode cX2_takePart 39 = .ok (.i2f, 1) := by decide +kernel
theorem dX2_takePart_40 : decode cX2_takePart 40 = .ok (.aload_n 0, 1) := by decide +kernel
theorem dX2_takePart_41 : decode cX2_takePart 41 = .ok (.aload_n 1, 1) := by decide +kernel
theorem dX2_takePart_42 : decode cX2_takePart 42 = .ok (.iload_n 2, 1) := by decide +kernel
theorem dX2_takePart_43 : decode cX2_takePart 43 = .ok (.invokevirtual 98, 3) := by decide +kernel
theorem dX2_takePart_46 : decode cX2_takePart 46 = .ok (.fmul, 1) := by decide +kernel
theorem dX2_takePart_47 : decode cX2_takePart 47 = .ok (.f2i, 1) := by decide +kernel
theorem dX2_takePart_48 : decode cX2_takePart 48 = .ok (.iastore, 1) := by decide +kernel
theorem dX2_takePart_49 : decode cX2_takePart 49 = .ok (.aload_n 0, 1) := by decide +kernel
theorem dX2_takePart_50 : decode cX2_takePart 50 = .ok (.dup, 1) := by decide +kernel
theorem dX2_takePart_51 : decode cX2_takePart 51 = .ok (.getfield 28, 3) := by decide +kernel
theorem dX2_takePart_54 : decode cX2_takePart 54 = .ok (.iconst 1, 1) := by decide +kernel
theorem dX2_takePart_55 : decode cX2_takePart 55 = .ok (.iadd, 1) := by decide +kernel
theorem dX2_takePart_56 : decode cX2_takePart 56 = .ok (.putfield 28, 3) := by decide +kernel
theorem dX2_takePart_59 : decode cX2_takePart 59 = .ok (.aload_n 0, 1) := by decide +kernel
theorem dX2_takePart_60 : decode cX2_takePart 60 = .ok (.getfield 21, 3) := by decide +kernel
theorem dX2_takePart_63 : decode cX2_takePart 63 = .ok (.iload_n 2, 1) := by decide +kernel
theorem dX2_takePart_64 : decode cX2_takePart 64 = .ok (.dup2, 1) := by decide +kernel
theorem dX2_takePart_65 : decode cX2_takePart 65 = .ok (.iaload, 1) := by decide +kernel
theorem dX2_takePart_66 : decode cX2_takePart 66 = .ok (.iload_n 3, 1) := by decide +kernel
theorem dX2_takePart_67 : decode cX2_takePart 67 = .ok (.isub, 1) := by decide +kernel
theorem dX2_takePart_68 : decode cX2_takePart 68 = .ok (.iastore, 1) := by decide +kernel
theorem dX2_takePart_69 : decode cX2_takePart 69 = .ok (.aload_n 0, 1) := by decide +kernel
theorem dX2_takePart_70 : decode cX2_takePart 70 = .ok (.dup, 1) := by decide +kernel
theorem dX2_takePart_71 : decode cX2_takePart 71 = .ok (.getfield 32, 3) := by decide +kernel
theorem dX2_takePart_74 : decode cX2_takePart 74 = .ok (.iload_n 3, 1) := by decide +kernel
theorem dX2_takePart_75 : decode cX2_takePart 75 = .ok (.iadd, 1) := by decide +kernel
theorem dX2_takePart_76 : decode cX2_takePart 76 = .ok (.putfield 32, 3) := by decide +kernel
theorem dX2_takePart_79 : decode cX2_takePart 79 = .ok (.return_, 1) := by decide +kernel
theorem dX2_chargedPrice_0 : decode cX2_chargedPrice 0 = .ok (.aload_n 1, 1) := by decide +kernel
theorem dX2_chargedPrice_1 : decode cX2_chargedPrice 1 = .ok (.getfield 68, 3) := by decide +kernel
theorem dX2_chargedPrice_4 : decode cX2_chargedPrice 4 = .ok (.getfield 102, 3) := by decide +kernel
theorem dX2_chargedPrice_7 : decode cX2_chargedPrice 7 = .ok (.aload_n 0, 1) := by decide +kernel
theorem dX2_chargedPrice_8 : decode cX2_chargedPrice 8 = .ok (.getfield 35, 3) := by decide +kernel
theorem dX2_chargedPrice_11 : decode cX2_chargedPrice 11 = .ok (.iaload, 1) := by decide +kernel
theorem dX2_chargedPrice_12 : decode cX2_chargedPrice 12 = .ok (.istore_n 3, 1) := by decide +kernel
theorem dX2_chargedPrice_13 : decode cX2_chargedPrice 13 = .ok (.aload_n 1, 1) := by decide +kernel
theorem dX2_chargedPrice_14 : decode cX2_chargedPrice 14 = .ok (.getfield 68, 3) := by decide +kernel
theorem dX2_chargedPrice_17 : decode cX2_chargedPrice 17 = .ok (.getfield 102, 3) := by decide +kernel
theorem dX2_chargedPrice_20 : decode cX2_chargedPrice 20 = .ok (.aload_n 1, 1) := by decide +kernel
theorem dX2_chargedPrice_21 : decode cX2_chargedPrice 21 = .ok (.getfield 44, 3) := by decide +kernel
theorem dX2_chargedPrice_24 : decode cX2_chargedPrice 24 = .ok (.getfield 104, 3) := by decide +kernel
theorem dX2_chargedPrice_27 : decode cX2_chargedPrice 27 = .ok (.iload_n 2, 1) := by decide +kernel
theorem dX2_chargedPrice_28 : decode cX2_chargedPrice 28 = .ok (.iaload, 1) := by decide +kernel
theorem dX2_chargedPrice_29 : decode cX2_chargedPrice 29 = .ok (.iaload, 1) := by decide +kernel
theorem dX2_chargedPrice_30 : decode cX2_chargedPrice 30 = .ok (.iload_n 3, 1) := by decide +kernel
theorem dX2_chargedPrice_31 : decode cX2_chargedPrice 31 = .ok (.if_icmp .le 7, 3) := by decide +kernel
theorem dX2_chargedPrice_34 : decode cX2_chargedPrice 34 = .ok (.iconst 1, 1) := by decide +kernel
theorem dX2_chargedPrice_35 : decode cX2_chargedPrice 35 = .ok (.goto 4, 3) := by decide +kernel
theorem dX2_chargedPrice_38 : decode cX2_chargedPrice 38 = .ok (.iconst 0, 1) := by decide +kernel
theorem dX2_chargedPrice_39 : decode cX2_chargedPrice 39 = .ok (.istore 4, 2) := by decide +kernel
theorem dX2_chargedPrice_41 : decode cX2_chargedPrice 41 = .ok (.iload 4, 2) := by decide +kernel
theorem dX2_chargedPrice_43 : decode cX2_chargedPrice 43 = .ok (.ifCond .eq 20, 3) := by decide +kernel
theorem dX2_chargedPrice_46 : decode cX2_chargedPrice 46 = .ok (.aload_n 0, 1) := by decide +kernel
theorem dX2_chargedPrice_47 : decode cX2_chargedPrice 47 = .ok (.getfield 24, 3) := by decide +kernel
theorem dX2_chargedPrice_50 : decode cX2_chargedPrice 50 = .ok (.iload_n 2, 1) := by decide +kernel
theorem dX2_chargedPrice_51 : decode cX2_chargedPrice 51 = .ok (.faload, 1) := by decide +kernel
theorem dX2_chargedPrice_52 : decode cX2_chargedPrice 52 = .ok (.iload_n 3, 1) := by decide +kernel
theorem dX2_chargedPrice_53 : decode cX2_chargedPrice 53 = .ok (.i2f, 1) := by decide +kernel
theorem dX2_chargedPrice_54 : decode cX2_chargedPrice 54 = .ok (.fcmp .l, 1) := by decide +kernel
theorem dX2_chargedPrice_55 : decode cX2_chargedPrice 55 = .ok (.ifCond .le 8, 3) := by decide +kernel
theorem dX2_chargedPrice_58 : decode cX2_chargedPrice 58 = .ok (.iload_n 3, 1) := by decide +kernel
theorem dX2_chargedPrice_59 : decode cX2_chargedPrice 59 = .ok (.i2f, 1) := by decide +kernel
theorem dX2_chargedPrice_60 : decode cX2_chargedPrice 60 = .ok (.goto 9, 3) := by decide +kernel
theorem dX2_chargedPrice_63 : decode cX2_chargedPrice 63 = .ok (.aload_n 0, 1) := by decide +kernel
theorem dX2_chargedPrice_64 : decode cX2_chargedPrice 64 = .ok (.getfield 24, 3) := by decide +kernel
theorem dX2_chargedPrice_67 : decode cX2_chargedPrice 67 = .ok (.iload_n 2, 1) := by decide +kernel
theorem dX2_chargedPrice_68 : decode cX2_chargedPrice 68 = .ok (.faload, 1) := by decide +kernel
theorem dX2_chargedPrice_69 : decode cX2_chargedPrice 69 = .ok (.freturn, 1) := by decide +kernel
set_option maxRecDepth 20000 in
theorem ggX2_nextBatch_X2_isOpen : GoodIn wsX2_nextBatch wsX2_isOpen := goodIn_r _ [7, 1, 8, 9, 10, 11, 18, 19, 20, 21, 22, 23, 24, 25, 26, 27, 28, 29, 30, 31, 32, 33, 34, 35, 36, 37, 38, 39, 40, 41, 42, 43, 44, 45] (by decide +kernel) (by decide +kernel)
set_option maxRecDepth 20000 in
theorem gX2_nextBatch_X2_isOpen : GoodIn wsX2_nextBatch (wsV RX2 107 RX2 yX2_isOpen wsX2_isOpen) := goodIn_app (goodIn_of _ (by decide +kernel)) ggX2_nextBatch_X2_isOpen
set_option maxRecDepth 20000 in
theorem ggX2_nextBatch_X2_isBefore : GoodIn wsX2_nextBatch wsX2_isBefore := goodIn_r _ [15, 1, 10, 16, 17, 18, 19, 20, 21, 22, 23, 24, 25, 26, 27, 28, 29, 30, 31, 32, 33, 34, 35, 36, 37, 38, 39, 40, 41, 42, 43, 44, 45] (by decide +kernel) (by decide +kernel)
set_option maxRecDepth 20000 in
theorem gX2_nextBatch_X2_isBefore : GoodIn wsX2_nextBatch (wsV RX2 111 RX2 yX2_isBefore wsX2_isBefore) := goodIn_app (goodIn_of _ (by decide +kernel)) ggX2_nextBatch_X2_isBefore
theorem dX2_nextBatch_0 : decode cX2_nextBatch 0 = .ok (.iconst (-1), 1) := by decide +kernel
theorem dX2_nextBatch_1 : decode cX2_nextBatch 1 = .ok (.istore_n 3, 1) := by decide +kernel
theorem dX2_nextBatch_2 : decode cX2_nextBatch 2 = .ok (.iconst 0, 1) := by decide +kernel
theorem dX2_nextBatch_3 : decode cX2_nextBatch 3 = .ok (.istore 4, 2) := by decide +kernel
theorem dX2_nextBatch_5 : decode cX2_nextBatch 5 = .ok (.iload 4, 2) := by decide +kernel
theorem dX2_nextBatch_7 : decode cX2_nextBatch 7 = .ok (.aload_n 1, 1) := by decide +kernel
theorem dX2_nextBatch_8 : decode cX2_nextBatch 8 = .ok (.getfield 44, 3) := by decide +kernel
theorem dX2_nextBatch_11 : decode cX2_nextBatch 11 = .ok (.getfield 59, 3) := by decide +kernel
theorem dX2_nextBatch_14 : decode cX2_nextBatch 14 = .ok (.if_icmp .ge 38, 3) := by decide +kernel
theorem dX2_nextBatch_17 : decode cX2_nextBatch 17 = .ok (.aload_n 0, 1) := by decide +kernel
theorem dX2_nextBatch_18 : decode cX2_nextBatch 18 = .ok (.aload_n 1, 1) := by decide +kernel
theorem dX2_nextBatch_19 : decode cX2_nextBatch 19 = .ok (.iload 4, 2) := by decide +kernel
theorem dX2_nextBatch_21 : decode cX2_nextBatch 21 = .ok (.iload_n 2, 1) := by decide +kernel
theorem dX2_nextBatch_22 : decode cX2_nextBatch 22 = .ok (.invokevirtual 107, 3) := by decide +kernel
theorem dX2_nextBatch_25 : decode cX2_nextBatch 25 = .ok (.ifCond .eq 21, 3) := by decide +kernel
theorem dX2_nextBatch_28 : decode cX2_nextBatch 28 = .ok (.iload_n 3, 1) := by decide +kernel
theorem dX2_nextBatch_29 : decode cX2_nextBatch 29 = .ok (.ifCond .lt 14, 3) := by decide +kernel
theorem dX2_nextBatch_32 : decode cX2_nextBatch 32 = .ok (.aload_n 0, 1) := by decide +kernel
theorem dX2_nextBatch_33 : decode cX2_nextBatch 33 = .ok (.aload_n 1, 1) := by decide +kernel
theorem dX2_nextBatch_34 : decode cX2_nextBatch 34 = .ok (.iload 4, 2) := by decide +kernel
theorem dX2_nextBatch_36 : decode cX2_nextBatch 36 = .ok (.iload_n 3, 1) := by decide +kernel
theorem dX2_nextBatch_37 : decode cX2_nextBatch 37 = .ok (.invokevirtual 111, 3) := by decide +kernel
theorem dX2_nextBatch_40 : decode cX2_nextBatch 40 = .ok (.ifCond .eq 6, 3) := by decide +kernel
theorem dX2_nextBatch_43 : decode cX2_nextBatch 43 = .ok (.iload 4, 2) := by decide +kernel
theorem dX2_nextBatch_45 : decode cX2_nextBatch 45 = .ok (.istore_n 3, 1) := by decide +kernel
theorem dX2_nextBatch_46 : decode cX2_nextBatch 46 = .ok (.iinc 4 1, 3) := by decide +kernel
theorem dX2_nextBatch_49 : decode cX2_nextBatch 49 = .ok (.goto (-44), 3) := by decide +kernel
theorem dX2_nextBatch_52 : decode cX2_nextBatch 52 = .ok (.iload_n 3, 1) := by decide +kernel
theorem dX2_nextBatch_53 : decode cX2_nextBatch 53 = .ok (.ireturn, 1) := by decide +kernel
theorem dX2_isOpen_0 : decode cX2_isOpen 0 = .ok (.aload_n 1, 1) := by decide +kernel
theorem dX2_isOpen_1 : decode cX2_isOpen 1 = .ok (.getfield 44, 3) := by decide +kernel
theorem dX2_isOpen_4 : decode cX2_isOpen 4 = .ok (.astore 4, 2) := by decide +kernel
theorem dX2_isOpen_6 : decode cX2_isOpen 6 = .ok (.aload 4, 2) := by decide +kernel
theorem dX2_isOpen_8 : decode cX2_isOpen 8 = .ok (.getfield 104, 3) := by decide +kernel
theorem dX2_isOpen_11 : decode cX2_isOpen 11 = .ok (.iload_n 2, 1) := by decide +kernel
theorem dX2_isOpen_12 : decode cX2_isOpen 12 = .ok (.iaload, 1) := by decide +kernel
theorem dX2_isOpen_13 : decode cX2_isOpen 13 = .ok (.iload_n 3, 1) := by decide +kernel
theorem dX2_isOpen_14 : decode cX2_isOpen 14 = .ok (.if_icmp .ne 30, 3) := by decide +kernel
theorem dX2_isOpen_17 : decode cX2_isOpen 17 = .ok (.aload_n 0, 1) := by decide +kernel
theorem dX2_isOpen_18 : decode cX2_isOpen 18 = .ok (.getfield 21, 3) := by decide +kernel
theorem dX2_isOpen_21 : decode cX2_isOpen 21 = .ok (.iload_n 2, 1) := by decide +kernel
theorem dX2_isOpen_22 : decode cX2_isOpen 22 = .ok (.iaload, 1) := by decide +kernel
theorem dX2_isOpen_23 : decode cX2_isOpen 23 = .ok (.ifCond .le 21, 3) := by decide +kernel
theorem dX2_isOpen_26 : decode cX2_isOpen 26 = .ok (.aload 4, 2) := by decide +kernel
theorem dX2_isOpen_28 : decode cX2_isOpen 28 = .ok (.getfield 114, 3) := by decide +kernel
theorem dX2_isOpen_31 : decode cX2_isOpen 31 = .ok (.iload_n 2, 1) := by decide +kernel
theorem dX2_isOpen_32 : decode cX2_isOpen 32 = .ok (.iaload, 1) := by decide +kernel
theorem dX2_isOpen_33 : decode cX2_isOpen 33 = .ok (.aload_n 0, 1) := by decide +kernel
theorem dX2_isOpen_34 : decode cX2_isOpen 34 = .ok (.getfield 41, 3) := by decide +kernel
theorem dX2_isOpen_37 : decode cX2_isOpen 37 = .ok (.if_icmp .lt 7, 3) := by decide +kernel
theorem dX2_isOpen_40 : decode cX2_isOpen 40 = .ok (.iconst 1, 1) := by decide +kernel
theorem dX2_isOpen_41 : decode cX2_isOpen 41 = .ok (.goto 4, 3) := by decide +kernel
theorem dX2_isOpen_44 : decode cX2_isOpen 44 = .ok (.iconst 0, 1) := by decide +kernel
theorem dX2_isOpen_45 : decode cX2_isOpen 45 = .ok (.ireturn, 1) := by decide +kernel
theorem dX2_isBefore_0 : decode cX2_isBefore 0 = .ok (.aload_n 1, 1) := by decide +kernel
theorem dX2_isBefore_1 : decode cX2_isBefore 1 = .ok (.getfield 44, 3) := by decide +kernel
theorem dX2_isBefore_4 : decode cX2_isBefore 4 = .ok (.getfield 114, 3) := by decide +kernel
theorem dX2_isBefore_7 : decode cX2_isBefore 7 = .ok (.astore 4, 2) := by decide +kernel
theorem dX2_isBefore_9 : decode cX2_isBefore 9 = .ok (.aload_n 1, 1) := by decide +kernel
theorem dX2_isBefore_10 : decode cX2_isBefore 10 = .ok (.getfield 117, 3) := by decide +kernel
theorem dX2_isBefore_13 : decode cX2_isBefore 13 = .ok (.iconst 0, 1) := by decide +kernel
theorem dX2_isBefore_14 : decode cX2_isBefore 14 = .ok (.iaload, 1) := by decide +kernel
theorem dX2_isBefore_15 : decode cX2_isBefore 15 = .ok (.lookupswitch 64 #[(1, 25), (2, 42)], 25) := by decide +kernel
theorem dX2_isBefore_40 : decode cX2_isBefore 40 = .ok (.aload 4, 2) := by decide +kernel
theorem dX2_isBefore_42 : decode cX2_isBefore 42 = .ok (.iload_n 2, 1) := by decide +kernel
theorem dX2_isBefore_43 : decode cX2_isBefore 43 = .ok (.iaload, 1) := by decide +kernel
theorem dX2_isBefore_44 : decode cX2_isBefore 44 = .ok (.aload 4, 2) := by decide +kernel
theorem dX2_isBefore_46 : decode cX2_isBefore 46 = .ok (.iload_n 3, 1) := by decide +kernel
theorem dX2_isBefore_47 : decode cX2_isBefore 47 = .ok (.iaload, 1) := by decide +kernel
theorem dX2_isBefore_48 : decode cX2_isBefore 48 = .ok (.if_icmp .le 7, 3) := by decide +kernel
theorem dX2_isBefore_51 : decode cX2_isBefore 51 = .ok (.iconst 1, 1) := by decide +kernel
theorem dX2_isBefore_52 : decode cX2_isBefore 52 = .ok (.goto 4, 3) := by decide +kernel
theorem dX2_isBefore_55 : decode cX2_isBefore 55 = .ok (.iconst 0, 1) := by decide +kernel
theorem dX2_isBefore_56 : decode cX2_isBefore 56 = .ok (.ireturn, 1) := by decide +kernel
theorem dX2_isBefore_57 : decode cX2_isBefore 57 = .ok (.aload_n 0, 1) := by decide +kernel
theorem dX2_isBefore_58 : decode cX2_isBefore 58 = .ok (.getfield 24, 3) := by decide +kernel
theorem dX2_isBefore_61 : decode cX2_isBefore 61 = .ok (.iload_n 2, 1) := by decide +kernel
theorem dX2_isBefore_62 : decode cX2_isBefore 62 = .ok (.faload, 1) := by decide +kernel
theorem dX2_isBefore_63 : decode cX2_isBefore 63 = .ok (.aload_n 0, 1) := by decide +kernel
theorem dX2_isBefore_64 : decode cX2_isBefore 64 = .ok (.getfield 24, 3) := by decide +kernel
theorem dX2_isBefore_67 : decode cX2_isBefore 67 = .ok (.iload_n 3, 1) := by decide +kernel
theorem dX2_isBefore_68 : decode cX2_isBefore 68 = .ok (.faload, 1) := by decide +kernel
theorem dX2_isBefore_69 : decode cX2_isBefore 69 = .ok (.fcmp .g, 1) := by decide +kernel
theorem dX2_isBefore_70 : decode cX2_isBefore 70 = .ok (.ifCond .ge 7, 3) := by decide +kernel
theorem dX2_isBefore_73 : decode cX2_isBefore 73 = .ok (.iconst 1, 1) := by decide +kernel
theorem dX2_isBefore_74 : decode cX2_isBefore 74 = .ok (.goto 4, 3) := by decide +kernel
theorem dX2_isBefore_77 : decode cX2_isBefore 77 = .ok (.iconst 0, 1) := by decide +kernel
theorem dX2_isBefore_78 : decode cX2_isBefore 78 = .ok (.ireturn, 1) := by decide +kernel
theorem dX2_isBefore_79 : decode cX2_isBefore 79 = .ok (.aload 4, 2) := by decide +kernel
theorem dX2_isBefore_81 : decode cX2_isBefore 81 = .ok (.iload_n 2, 1) := by decide +kernel
theorem dX2_isBefore_82 : decode cX2_isBefore 82 = .ok (.iaload, 1) := by decide +kernel
theorem dX2_isBefore_83 : decode cX2_isBefore 83 = .ok (.aload 4, 2) := by decide +kernel
theorem dX2_isBefore_85 : decode cX2_isBefore 85 = .ok (.iload_n 3, 1) := by decide +kernel
theorem dX2_isBefore_86 : decode cX2_isBefore 86 = .ok (.iaload, 1) := by decide +kernel
theorem dX2_isBefore_87 : decode cX2_isBefore 87 = .ok (.if_icmp .ge 7, 3) := by decide +kernel
theorem dX2_isBefore_90 : decode cX2_isBefore 90 = .ok (.iconst 1, 1) := by decide +kernel
theorem dX2_isBefore_91 : decode cX2_isBefore 91 = .ok (.goto 4, 3) := by decide +kernel
theorem dX2_isBefore_94 : decode cX2_isBefore 94 = .ok (.iconst 0, 1) := by decide +kernel
theorem dX2_isBefore_95 : decode cX2_isBefore 95 = .ok (.ireturn, 1) := by decide +kernel
theorem dX3_init_0 : decode cX3_init 0 = .ok (.aload_n 0, 1) := by decide +kernel
theorem dX3_init_1 : decode cX3_init 1 = .ok (.invokespecial 3, 3) := by decide +kernel
theorem dX3_init_4 : decode cX3_init 4 = .ok (.aload_n 0, 1) := by decide +kernel
theorem dX3_init_5 : decode cX3_init 5 = .ok (.bipush 12, 2) := by decide +kernel
theorem dX3_init_7 : decode cX3_init 7 = .ok (.newarray .int, 2) := by decide +kernel
theorem dX3_init_9 : decode cX3_init 9 = .ok (.putfield 9, 3) := by decide +kernel
theorem dX3_init_12 : decode cX3_init 12 = .ok (.aload_n 0, 1) := by decide +kernel
theorem dX3_init_13 : decode cX3_init 13 = .ok (.bipush 12, 2) := by decide +kernel
theorem dX3_init_15 : decode cX3_init 15 = .ok (.newarray .int, 2) := by decide +kernel
theorem dX3_init_17 : decode cX3_init 17 = .ok (.putfield 15, 3) := by decide +kernel
theorem dX3_init_20 : decode cX3_init 20 = .ok (.aload_n 0, 1) := by decide +kernel
theorem dX3_init_21 : decode cX3_init 21 = .ok (.bipush 12, 2) := by decide +kernel
theorem dX3_init_23 : decode cX3_init 23 = .ok (.newarray .int, 2) := by decide +kernel
theorem dX3_init_25 : decode cX3_init 25 = .ok (.putfield 18, 3) := by decide +kernel
theorem dX3_init_28 : decode cX3_init 28 = .ok (.aload_n 0, 1) := by decide +kernel
theorem dX3_init_29 : decode cX3_init 29 = .ok (.bipush 48, 2) := by decide +kernel
theorem dX3_init_31 : decode cX3_init 31 = .ok (.newarray .int, 2) := by decide +kernel
theorem dX3_init_33 : decode cX3_init 33 = .ok (.putfield 21, 3) := by decide +kernel
theorem dX3_init_36 : decode cX3_init 36 = .ok (.return_, 1) := by decide +kernel
set_option maxRecDepth 20000 in
theorem ggX3_copyFrom_X9_copyRow : GoodIn wsX3_copyFrom wsX9_copyRow := goodIn_r _ [8, 9, 10, 11, 12, 13, 14, 15, 16] (by decide +kernel) (by decide +kernel)
set_option maxRecDepth 20000 in
theorem gX3_copyFrom_X9_copyRow_n28 : GoodIn wsX3_copyFrom (wsX9_copyRow) := ggX3_copyFrom_X9_copyRow
theorem dX3_copyFrom_0 : decode cX3_copyFrom 0 = .ok (.aload_n 0, 1) := by decide +kernel
theorem dX3_copyFrom_1 : decode cX3_copyFrom 1 = .ok (.aload_n 1, 1) := by decide +kernel
theorem dX3_copyFrom_2 : decode cX3_copyFrom 2 = .ok (.getfield 24, 3) := by decide +kernel
theorem dX3_copyFrom_5 : decode cX3_copyFrom 5 = .ok (.putfield 24, 3) := by decide +kernel
theorem dX3_copyFrom_8 : decode cX3_copyFrom 8 = .ok (.aload_n 1, 1) := by decide +kernel
theorem dX3_copyFrom_9 : decode cX3_copyFrom 9 = .ok (.getfield 9, 3) := by decide +kernel
theorem dX3_copyFrom_12 : decode cX3_copyFrom 12 = .ok (.aload_n 0, 1) := by decide +kernel
theorem dX3_copyFrom_13 : decode cX3_copyFrom 13 = .ok (.getfield 9, 3) := by decide +kernel
theorem dX3_copyFrom_16 : decode cX3_copyFrom 16 = .ok (.invokestatic 28, 3) := by decide +kernel
theorem dX3_copyFrom_19 : decode cX3_copyFrom 19 = .ok (.aload_n 1, 1) := by decide +kernel
theorem dX3_copyFrom_20 : decode cX3_copyFrom 20 = .ok (.getfield 15, 3) := by decide +kernel
theorem dX3_copyFrom_23 : decode cX3_copyFrom 23 = .ok (.aload_n 0, 1) := by decide +kernel
theorem dX3_copyFrom_24 : decode cX3_copyFrom 24 = .ok (.getfield 15, 3) := by decide +kernel
theorem dX3_copyFrom_27 : decode cX3_copyFrom 27 = .ok (.invokestatic 28, 3) := by decide +kernel
theorem dX3_copyFrom_30 : decode cX3_copyFrom 30 = .ok (.aload_n 1, 1) := by decide +kernel
theorem dX3_copyFrom_31 : decode cX3_copyFrom 31 = .ok (.getfield 18, 3) := by decide +kernel
theorem dX3_copyFrom_34 : decode cX3_copyFrom 34 = .ok (.aload_n 0, 1) := by decide +kernel
theorem dX3_copyFrom_35 : decode cX3_copyFrom 35 = .ok (.getfield 18, 3) := by decide +kernel
theorem dX3_copyFrom_38 : decode cX3_copyFrom 38 = .ok (.invokestatic 28, 3) := by decide +kernel
theorem dX3_copyFrom_41 : decode cX3_copyFrom 41 = .ok (.aload_n 1, 1) := by decide +kernel
theorem dX3_copyFrom_42 : decode cX3_copyFrom 42 = .ok (.getfield 21, 3) := by decide +kernel
theorem dX3_copyFrom_45 : decode cX3_copyFrom 45 = .ok (.aload_n 0, 1) := by decide +kernel
theorem dX3_copyFrom_46 : decode cX3_copyFrom 46 = .ok (.getfield 21, 3) := by decide +kernel
theorem dX3_copyFrom_49 : decode cX3_copyFrom 49 = .ok (.invokestatic 28, 3) := by decide +kernel
theorem dX3_copyFrom_52 : decode cX3_copyFrom 52 = .ok (.return_, 1) := by decide +kernel
theorem dX3_append_0 : decode cX3_append 0 = .ok (.aload_n 0, 1) := by decide +kernel
theorem dX3_append_1 : decode cX3_append 1 = .ok (.getfield 24, 3) := by decide +kernel
theorem dX3_append_4 : decode cX3_append 4 = .ok (.istore_n 3, 1) := by decide +kernel
theorem dX3_append_5 : decode cX3_append 5 = .ok (.aload_n 0, 1) := by decide +kernel
theorem dX3_append_6 : decode cX3_append 6 = .ok (.getfield 9, 3) := by decide +kernel
theorem dX3_append_9 : decode cX3_append 9 = .ok (.iload_n 3, 1) := by decide +kernel
theorem dX3_append_10 : decode cX3_append 10 = .ok (.iload_n 1, 1) := by decide +kernel
theorem dX3_append_11 : decode cX3_append 11 = .ok (.iastore, 1) := by decide +kernel
theorem dX3_append_12 : decode cX3_append 12 = .ok (.aload_n 0, 1) := by decide +kernel
theorem dX3_append_13 : decode cX3_append 13 = .ok (.getfield 15, 3) := by decide +kernel
theorem dX3_append_16 : decode cX3_append 16 = .ok (.iload_n 3, 1) := by decide +kernel
theorem dX3_append_17 : decode cX3_append 17 = .ok (.iload_n 2, 1) := by decide +kernel
theorem dX3_append_18 : decode cX3_append 18 = .ok (.iastore, 1) := by decide +kernel
theorem dX3_append_19 : decode cX3_append 19 = .ok (.aload_n 0, 1) := by decide +kernel
theorem dX3_append_20 : decode cX3_append 20 = .ok (.dup, 1) := by decide +kernel
theorem dX3_append_21 : decode cX3_append 21 = .ok (.getfield 24, 3) := by decide +kernel
theorem dX3_append_24 : decode cX3_append 24 = .ok (.iconst 1, 1) := by decide +kernel
theorem dX3_append_25 : decode cX3_append 25 = .ok (.iadd, 1) := by decide +kernel
theorem dX3_append_26 : decode cX3_append 26 = .ok (.putfield 24, 3) := by decide +kernel
theorem dX3_append_29 : decode cX3_append 29 = .ok (.iload_n 3, 1) := by decide +kernel
theorem dX3_append_30 : decode cX3_append 30 = .ok (.ireturn, 1) := by decide +kernel
theorem dX3_listedAt_0 : decode cX3_listedAt 0 = .ok (.aload_n 0, 1) := by decide +kernel
theorem dX3_listedAt_1 : decode cX3_listedAt 1 = .ok (.getfield 21, 3) := by decide +kernel
theorem dX3_listedAt_4 : decode cX3_listedAt 4 = .ok (.iload_n 1, 1) := by decide +kernel
theorem dX3_listedAt_5 : decode cX3_listedAt 5 = .ok (.iconst 4, 1) := by decide +kernel
theorem dX3_listedAt_6 : decode cX3_listedAt 6 = .ok (.imul, 1) := by decide +kernel
theorem dX3_listedAt_7 : decode cX3_listedAt 7 = .ok (.iload_n 2, 1) := by decide +kernel
theorem dX3_listedAt_8 : decode cX3_listedAt 8 = .ok (.iadd, 1) := by decide +kernel
theorem dX3_listedAt_9 : decode cX3_listedAt 9 = .ok (.iaload, 1) := by decide +kernel
theorem dX3_listedAt_10 : decode cX3_listedAt 10 = .ok (.ireturn, 1) := by decide +kernel
set_option maxRecDepth 20000 in
theorem ggX3_lists_X3_listedAt : GoodIn wsX3_lists wsX3_listedAt := goodIn_r _ [6, 7, 8, 9, 10, 11, 12] (by decide +kernel) (by decide +kernel)
set_option maxRecDepth 20000 in
theorem gX3_lists_X3_listedAt : GoodIn wsX3_lists (wsV RX3 32 RX3 yX3_listedAt wsX3_listedAt) := goodIn_app (goodIn_of _ (by decide +kernel)) ggX3_lists_X3_listedAt
theorem dX3_lists_0 : decode cX3_lists 0 = .ok (.iconst 0, 1) := by decide +kernel
theorem dX3_lists_1 : decode cX3_lists 1 = .ok (.istore_n 3, 1) := by decide +kernel
theorem dX3_lists_2 : decode cX3_lists 2 = .ok (.iload_n 3, 1) := by decide +kernel
theorem dX3_lists_3 : decode cX3_lists 3 = .ok (.aload_n 0, 1) := by decide +kernel
theorem dX3_lists_4 : decode cX3_lists 4 = .ok (.getfield 18, 3) := by decide +kernel
theorem dX3_lists_7 : decode cX3_lists 7 = .ok (.iload_n 1, 1) := by decide +kernel
theorem dX3_lists_8 : decode cX3_lists 8 = .ok (.iaload, 1) := by decide +kernel
theorem dX3_lists_9 : decode cX3_lists 9 = .ok (.if_icmp .ge 21, 3) := by decide +kernel
theorem dX3_lists_12 : decode cX3_lists 12 = .ok (.aload_n 0, 1) := by decide +kernel
theorem dX3_lists_13 : decode cX3_lists 13 = .ok (.iload_n 1, 1) := by decide +kernel
theorem dX3_lists_14 : decode cX3_lists 14 = .ok (.iload_n 3, 1) := by decide +kernel
theorem dX3_lists_15 : decode cX3_lists 15 = .ok (.invokevirtual 32, 3) := by decide +kernel
theorem dX3_lists_18 : decode cX3_lists 18 = .ok (.iload_n 2, 1) := by decide +kernel
theorem dX3_lists_19 : decode cX3_lists 19 = .ok (.if_icmp .ne 5, 3) := by decide +kernel
theorem dX3_lists_22 : decode cX3_lists 22 = .ok (.iconst 1, 1) := by decide +kernel
theorem dX3_lists_23 : decode cX3_lists 23 = .ok (.ireturn, 1) := by decide +kernel
theorem dX3_lists_24 : decode cX3_lists 24 = .ok (.iinc 3 1, 3) := by decide +kernel
theorem dX3_lists_27 : decode cX3_lists 27 = .ok (.goto (-25), 3) := by decide +kernel
theorem dX3_lists_30 : decode cX3_lists 30 = .ok (.iconst 0, 1) := by decide +kernel
theorem dX3_lists_31 : decode cX3_lists 31 = .ok (.ireturn, 1) := by decide +kernel
theorem dX3_insert_0 : decode cX3_insert 0 = .ok (.iload_n 1, 1) := by decide +kernel
theorem dX3_insert_1 : decode cX3_insert 1 = .ok (.iconst 4, 1) := by decide +kernel
theorem dX3_insert_2 : decode cX3_insert 2 = .ok (.imul, 1) := by decide +kernel
theorem dX3_insert_3 : decode cX3_insert 3 = .ok (.istore 4, 2) := by decide +kernel
theorem dX3_insert_5 : decode cX3_insert 5 = .ok (.aload_n 0, 1) := by decide +kernel
theorem dX3_insert_6 : decode cX3_insert 6 = .ok (.getfield 18, 3) := by decide +kernel
theorem dX3_insert_9 : decode cX3_insert 9 = .ok (.iload_n 1, 1) := by decide +kernel
theorem dX3_insert_10 : decode cX3_insert 10 = .ok (.iaload, 1) := by decide +kernel
theorem dX3_insert_11 : decode cX3_insert 11 = .ok (.istore 5, 2) := by decide +kernel
theorem dX3_insert_13 : decode cX3_insert 13 = .ok (.iload 5, 2) := by decide +kernel
theorem dX3_insert_15 : decode cX3_insert 15 = .ok (.iload_n 3, 1) := by decide +kernel
theorem dX3_insert_16 : decode cX3_insert 16 = .ok (.if_icmp .le 31, 3) := by decide +kernel
theorem dX3_insert_19 : decode cX3_insert 19 = .ok (.aload_n 0, 1) := by decide +kernel
theorem dX3_insert_20 : decode cX3_insert 20 = .ok (.getfield 21, 3) := by decide +kernel
theorem dX3_insert_23 : decode cX3_insert 23 = .ok (.iload 4, 2) := by decide +kernel
theorem dX3_insert_25 : decode cX3_insert 25 = .ok (.iload 5, 2) := by decide +kernel
theorem dX3_insert_27 : decode cX3_insert 27 = .ok (.iadd, 1) := by decide +kernel
theorem dX3_insert_28 : decode cX3_insert 28 = .ok (.aload_n 0, 1) := by decide +kernel
theorem dX3_insert_29 : decode cX3_insert 29 = .ok (.getfield 21, 3) := by decide +kernel
theorem dX3_insert_32 : decode cX3_insert 32 = .ok (.iload 4, 2) := by decide +kernel
theorem dX3_insert_34 : decode cX3_insert 34 = .ok (.iload 5, 2) := by decide +kernel
theorem dX3_insert_36 : decode cX3_insert 36 = .ok (.iadd, 1) := by decide +kernel
theorem dX3_insert_37 : decode cX3_insert 37 = .ok (.iconst 1, 1) := by decide +kernel
theorem dX3_insert_38 : decode cX3_insert 38 = .ok (.isub, 1) := by decide +kernel
theorem dX3_insert_39 : decode cX3_insert 39 = .ok (.iaload, 1) := by decide +kernel
theorem dX3_insert_40 : decode cX3_insert 40 = .ok (.iastore, 1) := by decide +kernel
theorem dX3_insert_41 : decode cX3_insert 41 = .ok (.iinc 5 (-1), 3) := by decide +kernel
theorem dX3_insert_44 : decode cX3_insert 44 = .ok (.goto (-31), 3) := by decide +kernel
theorem dX3_insert_47 : decode cX3_insert 47 = .ok (.aload_n 0, 1) := by decide +kernel
theorem dX3_insert_48 : decode cX3_insert 48 = .ok (.getfield 21, 3) := by decide +kernel
theorem dX3_insert_51 : decode cX3_insert 51 = .ok (.iload 4, 2) := by decide +kernel
theorem dX3_insert_53 : decode cX3_insert 53 = .ok (.iload_n 3, 1) := by decide +kernel
theorem dX3_insert_54 : decode cX3_insert 54 = .ok (.iadd, 1) := by decide +kernel
theorem dX3_insert_55 : decode cX3_insert 55 = .ok (.iload_n 2, 1) := by decide +kernel
theorem dX3_insert_56 : decode cX3_insert 56 = .ok (.iastore, 1) := by decide +kernel
theorem dX3_insert_57 : decode cX3_insert 57 = .ok (.aload_n 0, 1) := by decide +kernel
theorem dX3_insert_58 : decode cX3_insert 58 = .ok (.getfield 18, 3) := by decide +kernel
theorem dX3_insert_61 : decode cX3_insert 61 = .ok (.iload_n 1, 1) := by decide +kernel
theorem dX3_insert_62 : decode cX3_insert 62 = .ok (.dup2, 1) := by decide +kernel
theorem dX3_insert_63 : decode cX3_insert 63 = .ok (.iaload, 1) := by decide +kernel
theorem dX3_insert_64 : decode cX3_insert 64 = .ok (.iconst 1, 1) := by decide +kernel
theorem dX3_insert_65 : decode cX3_insert 65 = .ok (.iadd, 1) := by decide +kernel
theorem dX3_insert_66 : decode cX3_insert 66 = .ok (.iastore, 1) := by decide +kernel
theorem dX3_insert_67 : decode cX3_insert 67 = .ok (.return_, 1) := by decide +kernel
set_option maxRecDepth 20000 in
theorem ggX4_init_X8_init : GoodIn wsX4_init wsX8_init := goodIn_r _ [9, 10, 2, 3, 11, 12, 13, 14, 15, 16, 17, 18, 19, 20, 21, 22, 23, 24, 25, 26, 27, 28, 29, 30, 31, 32, 33, 34, 35, 36, 37, 38, 39, 40, 41, 42, 43, 44, 45, 46, 47, 48, 49, 50, 51, 52, 53, 54, 55, 56, 57, 58, 59, 60, 61, 62, 63, 64, 65, 66, 67, 68, 69, 70, 71, 72, 73, 74, 75, 76, 77, 78, 79, 80, 81, 82, 94, 95, 96, 97, 98, 86, 87, 88, 89, 90, 91, 92, 93, 99, 100, 101, 102, 103, 104, 105, 106, 107, 108, 109, 110, 111, 112, 113, 114, 115, 116, 117, 118, 119, 120, 121, 122, 123, 124, 125, 126, 127, 128, 129] (by decide +kernel) (by decide +kernel)
set_option maxRecDepth 20000 in
theorem gX4_init_X8_init_n17 : GoodIn wsX4_init (wsX8_init) := ggX4_init_X8_init
theorem dX4_init_0 : decode cX4_init 0 = .ok (.aload_n 0, 1) := by decide +kernel
theorem dX4_init_1 : decode cX4_init 1 = .ok (.invokespecial 3, 3) := by decide +kernel
theorem dX4_init_4 : decode cX4_init 4 = .ok (.aload_n 0, 1) := by decide +kernel
theorem dX4_init_5 : decode cX4_init 5 = .ok (.iconst 4, 1) := by decide +kernel
theorem dX4_init_6 : decode cX4_init 6 = .ok (.anewarray 9, 3) := by decide +kernel
theorem dX4_init_9 : decode cX4_init 9 = .ok (.putfield 11, 3) := by decide +kernel
theorem dX4_init_12 : decode cX4_init 12 = .ok (.iconst 0, 1) := by decide +kernel
theorem dX4_init_13 : decode cX4_init 13 = .ok (.istore_n 1, 1) := by decide +kernel
theorem dX4_init_14 : decode cX4_init 14 = .ok (.iload_n 1, 1) := by decide +kernel
theorem dX4_init_15 : decode cX4_init 15 = .ok (.iconst 4, 1) := by decide +kernel
theorem dX4_init_16 : decode cX4_init 16 = .ok (.if_icmp .ge 22, 3) := by decide +kernel
theorem dX4_init_19 : decode cX4_init 19 = .ok (.aload_n 0, 1) := by decide +kernel
theorem dX4_init_20 : decode cX4_init 20 = .ok (.getfield 11, 3) := by decide +kernel
theorem dX4_init_23 : decode cX4_init 23 = .ok (.iload_n 1, 1) := by decide +kernel
theorem dX4_init_24 : decode cX4_init 24 = .ok (.new 9, 3) := by decide +kernel
theorem dX4_init_27 : decode cX4_init 27 = .ok (.dup, 1) := by decide +kernel
theorem dX4_init_28 : decode cX4_init 28 = .ok (.invokespecial 17, 3) := by decide +kernel
theorem dX4_init_31 : decode cX4_init 31 = .ok (.aastore, 1) := by decide +kernel
theorem dX4_init_32 : decode cX4_init 32 = .ok (.iinc 1 1, 3) := by decide +kernel
theorem dX4_init_35 : decode cX4_init 35 = .ok (.goto (-21), 3) := by decide +kernel
theorem dX4_init_38 : decode cX4_init 38 = .ok (.return_, 1) := by decide +kernel
set_option maxRecDepth 20000 in
theorem ggX4_push_X8_copyFrom : GoodIn wsX4_push wsX8_copyFrom := goodIn_r _ [8, 9, 10, 11, 12, 13, 14, 15, 16, 17, 18, 19, 20, 21, 22, 23, 24, 25, 26, 27, 28, 29, 30, 31, 32, 33, 34, 35, 36, 37, 38, 39, 40, 41, 42, 43, 44, 45, 46, 47, 48, 49, 50, 51, 52, 53, 54, 55, 56, 57, 58, 59, 60, 61, 62, 63, 64, 65, 66, 67, 68, 69, 70, 71, 72, 73, 74, 75, 76, 77, 78, 79, 80, 81, 82, 83, 84, 85, 86, 87, 88, 92, 93, 94, 95, 96, 97, 98, 99, 100, 101, 102, 103, 104, 105, 106, 107, 108, 109, 110, 111, 112, 113, 114, 115, 116, 117, 118, 119, 120, 121, 122, 123, 124, 125, 126, 127, 128, 129, 130, 131, 132, 133, 134, 135] (by decide +kernel) (by decide +kernel)
set_option maxRecDepth 20000 in
theorem gX4_push_X8_copyFrom : GoodIn wsX4_push (wsV RX4 25 RX8 yX8_copyFrom wsX8_copyFrom) := goodIn_app (goodIn_of _ (by decide +kernel)) ggX4_push_X8_copyFrom
theorem dX4_push_0 : decode cX4_push 0 = .ok (.aload_n 0, 1) := by decide +kernel
theorem dX4_push_1 : decode cX4_push 1 = .ok (.getfield 18, 3) := by decide +kernel
theorem dX4_push_4 : decode cX4_push 4 = .ok (.iconst 4, 1) := by decide +kernel
theorem dX4_push_5 : decode cX4_push 5 = .ok (.if_icmp .ne 25, 3) := by decide +kernel
theorem dX4_push_8 : decode cX4_push 8 = .ok (.aload_n 0, 1) := by decide +kernel
theorem dX4_push_9 : decode cX4_push 9 = .ok (.aload_n 0, 1) := by decide +kernel
theorem dX4_push_10 : decode cX4_push 10 = .ok (.getfield 22, 3) := by decide +kernel
theorem dX4_push_13 : decode cX4_push 13 = .ok (.iconst 1, 1) := by decide +kernel
theorem dX4_push_14 : decode cX4_push 14 = .ok (.iadd, 1) := by decide +kernel
theorem dX4_push_15 : decode cX4_push 15 = .ok (.iconst 4, 1) := by decide +kernel
theorem dX4_push_16 : decode cX4_push 16 = .ok (.irem, 1) := by decide +kernel
theorem dX4_push_17 : decode cX4_push 17 = .ok (.putfield 22, 3) := by decide +kernel
theorem dX4_push_20 : decode cX4_push 20 = .ok (.aload_n 0, 1) := by decide +kernel
theorem dX4_push_21 : decode cX4_push 21 = .ok (.dup, 1) := by decide +kernel
theorem dX4_push_22 : decode cX4_push 22 = .ok (.getfield 18, 3) := by decide +kernel
theorem dX4_push_25 : decode cX4_push 25 = .ok (.iconst 1, 1) := by decide +kernel
theorem dX4_push_26 : decode cX4_push 26 = .ok (.isub, 1) := by decide +kernel
theorem dX4_push_27 : decode cX4_push 27 = .ok (.putfield 18, 3) := by decide +kernel
theorem dX4_push_30 : decode cX4_push 30 = .ok (.aload_n 0, 1) := by decide +kernel
theorem dX4_push_31 : decode cX4_push 31 = .ok (.getfield 11, 3) := by decide +kernel
theorem dX4_push_34 : decode cX4_push 34 = .ok (.aload_n 0, 1) := by decide +kernel
theorem dX4_push_35 : decode cX4_push 35 = .ok (.getfield 22, 3) := by decide +kernel
theorem dX4_push_38 : decode cX4_push 38 = .ok (.aload_n 0, 1) := by decide +kernel
theorem dX4_push_39 : decode cX4_push 39 = .ok (.getfield 18, 3) := by decide +kernel
theorem dX4_push_42 : decode cX4_push 42 = .ok (.iadd, 1) := by decide +kernel
theorem dX4_push_43 : decode cX4_push 43 = .ok (.iconst 4, 1) := by decide +kernel
theorem dX4_push_44 : decode cX4_push 44 = .ok (.irem, 1) := by decide +kernel
theorem dX4_push_45 : decode cX4_push 45 = .ok (.aaload, 1) := by decide +kernel
theorem dX4_push_46 : decode cX4_push 46 = .ok (.aload_n 1, 1) := by decide +kernel
theorem dX4_push_47 : decode cX4_push 47 = .ok (.invokevirtual 25, 3) := by decide +kernel
theorem dX4_push_50 : decode cX4_push 50 = .ok (.aload_n 0, 1) := by decide +kernel
theorem dX4_push_51 : decode cX4_push 51 = .ok (.dup, 1) := by decide +kernel
theorem dX4_push_52 : decode cX4_push 52 = .ok (.getfield 18, 3) := by decide +kernel
theorem dX4_push_55 : decode cX4_push 55 = .ok (.iconst 1, 1) := by decide +kernel
theorem dX4_push_56 : decode cX4_push 56 = .ok (.iadd, 1) := by decide +kernel
theorem dX4_push_57 : decode cX4_push 57 = .ok (.putfield 18, 3) := by decide +kernel
theorem dX4_push_60 : decode cX4_push 60 = .ok (.return_, 1) := by decide +kernel
set_option maxRecDepth 20000 in
theorem ggX4_popInto_X8_copyFrom : GoodIn wsX4_popInto wsX8_copyFrom := goodIn_r _ [8, 9, 10, 11, 12, 13, 14, 15, 16, 17, 18, 19, 20, 21, 22, 23, 24, 25, 26, 27, 28, 29, 30, 31, 32, 33, 34, 35, 36, 37, 38, 39, 40, 41, 42, 43, 44, 45, 46, 47, 48, 49, 50, 51, 52, 53, 54, 55, 56, 57, 58, 59, 60, 61, 62, 63, 64, 65, 66, 67, 68, 69, 70, 71, 72, 73, 74, 75, 76, 77, 78, 79, 80, 81, 82, 83, 84, 85, 86, 87, 88, 92, 93, 94, 95, 96, 97, 98, 99, 100, 101, 102, 103, 104, 105, 106, 107, 108, 109, 110, 111, 112, 113, 114, 115, 116, 117, 118, 119, 120, 121, 122, 123, 124, 125, 126, 127, 128, 129, 130, 131, 132, 133, 134, 135] (by decide +kernel) (by decide +kernel)
set_option maxRecDepth 20000 in
theorem gX4_popInto_X8_copyFrom : GoodIn wsX4_popInto (wsV RX4 25 RX8 yX8_copyFrom wsX8_copyFrom) := goodIn_app (goodIn_of _ (by decide +kernel)) ggX4_popInto_X8_copyFrom
theorem dX4_popInto_0 : decode cX4_popInto 0 = .ok (.aload_n 0, 1) := by decide +kernel
theorem dX4_popInto_1 : decode cX4_popInto 1 = .ok (.dup, 1) := by decide +kernel
theorem dX4_popInto_2 : decode cX4_popInto 2 = .ok (.getfield 18, 3) := by decide +kernel
theorem dX4_popInto_5 : decode cX4_popInto 5 = .ok (.iconst 1, 1) := by decide +kernel
theorem dX4_popInto_6 : decode cX4_popInto 6 = .ok (.isub, 1) := by decide +kernel
theorem dX4_popInto_7 : decode cX4_popInto 7 = .ok (.putfield 18, 3) := by decide +kernel
theorem dX4_popInto_10 : decode cX4_popInto 10 = .ok (.aload_n 1, 1) := by decide +kernel
theorem dX4_popInto_11 : decode cX4_popInto 11 = .ok (.aload_n 0, 1) := by decide +kernel
theorem dX4_popInto_12 : decode cX4_popInto 12 = .ok (.getfield 11, 3) := by decide +kernel
theorem dX4_popInto_15 : decode cX4_popInto 15 = .ok (.aload_n 0, 1) := by decide +kernel
theorem dX4_popInto_16 : decode cX4_popInto 16 = .ok (.getfield 22, 3) := by decide +kernel
theorem dX4_popInto_19 : decode cX4_popInto 19 = .ok (.aload_n 0, 1) := by decide +kernel
theorem dX4_popInto_20 : decode cX4_popInto 20 = .ok (.getfield 18, 3) := by decide +kernel
theorem dX4_popInto_23 : decode cX4_popInto 23 = .ok (.iadd, 1) := by decide +kernel
theorem dX4_popInto_24 : decode cX4_popInto 24 = .ok (.iconst 4, 1) := by decide +kernel
theorem dX4_popInto_25 : decode cX4_popInto 25 = .ok (.irem, 1) := by decide +kernel
theorem dX4_popInto_26 : decode cX4_popInto 26 = .ok (.aaload, 1) := by decide +kernel
theorem dX4_popInto_27 : decode cX4_popInto 27 = .ok (.invokevirtual 25, 3) := by decide +kernel
theorem dX4_popInto_30 : decode cX4_popInto 30 = .ok (.return_, 1) := by decide +kernel
theorem dX5_init_0 : decode cX5_init 0 = .ok (.aload_n 0, 1) := by decide +kernel
theorem dX5_init_1 : decode cX5_init 1 = .ok (.invokespecial 3, 3) := by decide +kernel
theorem dX5_init_4 : decode cX5_init 4 = .ok (.aload_n 0, 1) := by decide +kernel
theorem dX5_init_5 : decode cX5_init 5 = .ok (.bipush 10, 2) := by decide +kernel
theorem dX5_init_7 : decode cX5_init 7 = .ok (.newarray .int, 2) := by decide +kernel
theorem dX5_init_9 : decode cX5_init 9 = .ok (.putfield 9, 3) := by decide +kernel
theorem dX5_init_12 : decode cX5_init 12 = .ok (.aload_n 0, 1) := by decide +kernel
theorem dX5_init_13 : decode cX5_init 13 = .ok (.bipush 10, 2) := by decide +kernel
theorem dX5_init_15 : decode cX5_init 15 = .ok (.newarray .int, 2) := by decide +kernel
theorem dX5_init_17 : decode cX5_init 17 = .ok (.putfield 15, 3) := by decide +kernel
theorem dX5_init_20 : decode cX5_init 20 = .ok (.aload_n 0, 1) := by decide +kernel
theorem dX5_init_21 : decode cX5_init 21 = .ok (.bipush 10, 2) := by decide +kernel
theorem dX5_init_23 : decode cX5_init 23 = .ok (.newarray .int, 2) := by decide +kernel
theorem dX5_init_25 : decode cX5_init 25 = .ok (.putfield 18, 3) := by decide +kernel
theorem dX5_init_28 : decode cX5_init 28 = .ok (.aload_n 0, 1) := by decide +kernel
theorem dX5_init_29 : decode cX5_init 29 = .ok (.bipush 10, 2) := by decide +kernel
theorem dX5_init_31 : decode cX5_init 31 = .ok (.newarray .int, 2) := by decide +kernel
theorem dX5_init_33 : decode cX5_init 33 = .ok (.putfield 21, 3) := by decide +kernel
theorem dX5_init_36 : decode cX5_init 36 = .ok (.return_, 1) := by decide +kernel
set_option maxRecDepth 20000 in
theorem ggX5_copyFrom_X9_copyRow : GoodIn wsX5_copyFrom wsX9_copyRow := goodIn_r _ [9, 10, 11, 12, 13, 14, 15, 16, 17] (by decide +kernel) (by decide +kernel)
set_option maxRecDepth 20000 in
theorem gX5_copyFrom_X9_copyRow_n31 : GoodIn wsX5_copyFrom (wsX9_copyRow) := ggX5_copyFrom_X9_copyRow
theorem dX5_copyFrom_0 : decode cX5_copyFrom 0 = .ok (.aload_n 0, 1) := by decide +kernel
theorem dX5_copyFrom_1 : decode cX5_copyFrom 1 = .ok (.aload_n 1, 1) := by decide +kernel
theorem dX5_copyFrom_2 : decode cX5_copyFrom 2 = .ok (.getfield 24, 3) := by decide +kernel
theorem dX5_copyFrom_5 : decode cX5_copyFrom 5 = .ok (.putfield 24, 3) := by decide +kernel
theorem dX5_copyFrom_8 : decode cX5_copyFrom 8 = .ok (.aload_n 0, 1) := by decide +kernel
theorem dX5_copyFrom_9 : decode cX5_copyFrom 9 = .ok (.aload_n 1, 1) := by decide +kernel
theorem dX5_copyFrom_10 : decode cX5_copyFrom 10 = .ok (.getfield 28, 3) := by decide +kernel
theorem dX5_copyFrom_13 : decode cX5_copyFrom 13 = .ok (.putfield 28, 3) := by decide +kernel
theorem dX5_copyFrom_16 : decode cX5_copyFrom 16 = .ok (.aload_n 1, 1) := by decide +kernel
theorem dX5_copyFrom_17 : decode cX5_copyFrom 17 = .ok (.getfield 9, 3) := by decide +kernel
theorem dX5_copyFrom_20 : decode cX5_copyFrom 20 = .ok (.aload_n 0, 1) := by decide +kernel
theorem dX5_copyFrom_21 : decode cX5_copyFrom 21 = .ok (.getfield 9, 3) := by decide +kernel
theorem dX5_copyFrom_24 : decode cX5_copyFrom 24 = .ok (.invokestatic 31, 3) := by decide +kernel
theorem dX5_copyFrom_27 : decode cX5_copyFrom 27 = .ok (.aload_n 1, 1) := by decide +kernel
theorem dX5_copyFrom_28 : decode cX5_copyFrom 28 = .ok (.getfield 15, 3) := by decide +kernel
theorem dX5_copyFrom_31 : decode cX5_copyFrom 31 = .ok (.aload_n 0, 1) := by decide +kernel
theorem dX5_copyFrom_32 : decode cX5_copyFrom 32 = .ok (.getfield 15, 3) := by decide +kernel
theorem dX5_copyFrom_35 : decode cX5_copyFrom 35 = .ok (.invokestatic 31, 3) := by decide +kernel
theorem dX5_copyFrom_38 : decode cX5_copyFrom 38 = .ok (.aload_n 1, 1) := by decide +kernel
theorem dX5_copyFrom_39 : decode cX5_copyFrom 39 = .ok (.getfield 18, 3) := by decide +kernel
theorem dX5_copyFrom_42 : decode cX5_copyFrom 42 = .ok (.aload_n 0, 1) := by decide +kernel
theorem dX5_copyFrom_43 : decode cX5_copyFrom 43 = .ok (.getfield 18, 3) := by decide +kernel
theorem dX5_copyFrom_46 : decode cX5_copyFrom 46 = .ok (.invokestatic 31, 3) := by decide +kernel
theorem dX5_copyFrom_49 : decode cX5_copyFrom 49 = .ok (.aload_n 1, 1) := by decide +kernel
theorem dX5_copyFrom_50 : decode cX5_copyFrom 50 = .ok (.getfield 21, 3) := by decide +kernel
theorem dX5_copyFrom_53 : decode cX5_copyFrom 53 = .ok (.aload_n 0, 1) := by decide +kernel
theorem dX5_copyFrom_54 : decode cX5_copyFrom 54 = .ok (.getfield 21, 3) := by decide +kernel
theorem dX5_copyFrom_57 : decode cX5_copyFrom 57 = .ok (.invokestatic 31, 3) := by decide +kernel
theorem dX5_copyFrom_60 : decode cX5_copyFrom 60 = .ok (.return_, 1) := by decide +kernel
theorem dX5_append_0 : decode cX5_append 0 = .ok (.aload_n 0, 1) := by decide +kernel
theorem dX5_append_1 : decode cX5_append 1 = .ok (.getfield 9, 3) := by decide +kernel
theorem dX5_append_4 : decode cX5_append 4 = .ok (.aload_n 0, 1) := by decide +kernel
theorem dX5_append_5 : decode cX5_append 5 = .ok (.getfield 28, 3) := by decide +kernel
theorem dX5_append_8 : decode cX5_append 8 = .ok (.iload_n 1, 1) := by decide +kernel
theorem dX5_append_9 : decode cX5_append 9 = .ok (.iastore, 1) := by decide +kernel
theorem dX5_append_10 : decode cX5_append 10 = .ok (.aload_n 0, 1) := by decide +kernel
theorem dX5_append_11 : decode cX5_append 11 = .ok (.getfield 15, 3) := by decide +kernel
theorem dX5_append_14 : decode cX5_append 14 = .ok (.aload_n 0, 1) := by decide +kernel
theorem dX5_append_15 : decode cX5_append 15 = .ok (.getfield 28, 3) := by decide +kernel
theorem dX5_append_18 : decode cX5_append 18 = .ok (.iload_n 2, 1) := by decide +kernel
theorem dX5_append_19 : decode cX5_append 19 = .ok (.iastore, 1) := by decide +kernel
theorem dX5_append_20 : decode cX5_append 20 = .ok (.aload_n 0, 1) := by decide +kernel
theorem dX5_append_21 : decode cX5_append 21 = .ok (.getfield 18, 3) := by decide +kernel
theorem dX5_append_24 : decode cX5_append 24 = .ok (.aload_n 0, 1) := by decide +kernel
theorem dX5_append_25 : decode cX5_append 25 = .ok (.getfield 28, 3) := by decide +kernel
theorem dX5_append_28 : decode cX5_append 28 = .ok (.iload_n 3, 1) := by decide +kernel
theorem dX5_append_29 : decode cX5_append 29 = .ok (.iastore, 1) := by decide +kernel
theorem dX5_append_30 : decode cX5_append 30 = .ok (.aload_n 0, 1) := by decide +kernel
theorem dX5_append_31 : decode cX5_append 31 = .ok (.getfield 21, 3) := by decide +kernel
theorem dX5_append_34 : decode cX5_append 34 = .ok (.aload_n 0, 1) := by decide +kernel
theorem dX5_append_35 : decode cX5_append 35 = .ok (.getfield 28, 3) := by decide +kernel
theorem dX5_append_38 : decode cX5_append 38 = .ok (.iload 4, 2) := by decide +kernel
theorem dX5_append_40 : decode cX5_append 40 = .ok (.iastore, 1) := by decide +kernel
theorem dX5_append_41 : decode cX5_append 41 = .ok (.aload_n 0, 1) := by decide +kernel
theorem dX5_append_42 : decode cX5_append 42 = .ok (.aload_n 0, 1) := by decide +kernel
theorem dX5_append_43 : decode cX5_append 43 = .ok (.getfield 28, 3) := by decide +kernel
theorem dX5_append_46 : decode cX5_append 46 = .ok (.iconst 1, 1) := by decide +kernel
theorem dX5_append_47 : decode cX5_append 47 = .ok (.iadd, 1) := by decide +kernel
theorem dX5_append_48 : decode cX5_append 48 = .ok (.bipush 10, 2) := by decide +kernel
theorem dX5_append_50 : decode cX5_append 50 = .ok (.irem, 1) := by decide +kernel
theorem dX5_append_51 : decode cX5_append 51 = .ok (.putfield 28, 3) := by decide +kernel
theorem dX5_append_54 : decode cX5_append 54 = .ok (.aload_n 0, 1) := by decide +kernel
theorem dX5_append_55 : decode cX5_append 55 = .ok (.aload_n 0, 1) := by decide +kernel
theorem dX5_append_56 : decode cX5_append 56 = .ok (.getfield 24, 3) := by decide +kernel
theorem dX5_append_59 : decode cX5_append 59 = .ok (.iconst 1, 1) := by decide +kernel
theorem dX5_append_60 : decode cX5_append 60 = .ok (.iadd, 1) := by decide +kernel
theorem dX5_append_61 : decode cX5_append 61 = .ok (.bipush 10, 2) := by decide +kernel
theorem dX5_append_63 : decode cX5_append 63 = .ok (.invokestatic 35, 3) := by decide +kernel
theorem dX5_append_66 : decode cX5_append 66 = .ok (.putfield 24, 3) := by decide +kernel
theorem dX5_append_69 : decode cX5_append 69 = .ok (.return_, 1) := by decide +kernel
set_option maxRecDepth 20000 in
theorem ggX5_placeOf_J9_floorMod_7cf53 : GoodIn wsX5_placeOf wsJ9_floorMod_7cf53 := goodIn_r _ [5] (by decide +kernel) (by decide +kernel)
set_option maxRecDepth 20000 in
theorem gX5_placeOf_J9_floorMod_7cf53 : GoodIn wsX5_placeOf (va_wsS RX5 41 yJ9_floorMod_7cf53 wsJ9_floorMod_7cf53) := goodIn_app (goodIn_of _ (by decide +kernel)) ggX5_placeOf_J9_floorMod_7cf53
theorem dX5_placeOf_0 : decode cX5_placeOf 0 = .ok (.aload_n 0, 1) := by decide +kernel
theorem dX5_placeOf_1 : decode cX5_placeOf 1 = .ok (.getfield 28, 3) := by decide +kernel
theorem dX5_placeOf_4 : decode cX5_placeOf 4 = .ok (.iconst 1, 1) := by decide +kernel
theorem dX5_placeOf_5 : decode cX5_placeOf 5 = .ok (.isub, 1) := by decide +kernel
theorem dX5_placeOf_6 : decode cX5_placeOf 6 = .ok (.iload_n 1, 1) := by decide +kernel
theorem dX5_placeOf_7 : decode cX5_placeOf 7 = .ok (.isub, 1) := by decide +kernel
theorem dX5_placeOf_8 : decode cX5_placeOf 8 = .ok (.bipush 10, 2) := by decide +kernel
theorem dX5_placeOf_10 : decode cX5_placeOf 10 = .ok (.invokestatic 41, 3) := by decide +kernel
theorem dX5_placeOf_13 : decode cX5_placeOf 13 = .ok (.ireturn, 1) := by decide +kernel
theorem dX6_init_0 : decode cX6_init 0 = .ok (.aload_n 0, 1) := by decide +kernel
theorem dX6_init_1 : decode cX6_init 1 = .ok (.invokespecial 3, 3) := by decide +kernel
theorem dX6_init_4 : decode cX6_init 4 = .ok (.aload_n 0, 1) := by decide +kernel
theorem dX6_init_5 : decode cX6_init 5 = .ok (.bipush 30, 2) := by decide +kernel
theorem dX6_init_7 : decode cX6_init 7 = .ok (.newarray .int, 2) := by decide +kernel
theorem dX6_init_9 : decode cX6_init 9 = .ok (.putfield 9, 3) := by decide +kernel
theorem dX6_init_12 : decode cX6_init 12 = .ok (.aload_n 0, 1) := by decide +kernel
theorem dX6_init_13 : decode cX6_init 13 = .ok (.bipush 30, 2) := by decide +kernel
theorem dX6_init_15 : decode cX6_init 15 = .ok (.newarray .int, 2) := by decide +kernel
theorem dX6_init_17 : decode cX6_init 17 = .ok (.putfield 15, 3) := by decide +kernel
theorem dX6_init_20 : decode cX6_init 20 = .ok (.aload_n 0, 1) := by decide +kernel
theorem dX6_init_21 : decode cX6_init 21 = .ok (.bipush 30, 2) := by decide +kernel
theorem dX6_init_23 : decode cX6_init 23 = .ok (.newarray .int, 2) := by decide +kernel
theorem dX6_init_25 : decode cX6_init 25 = .ok (.putfield 18, 3) := by decide +kernel
theorem dX6_init_28 : decode cX6_init 28 = .ok (.aload_n 0, 1) := by decide +kernel
theorem dX6_init_29 : decode cX6_init 29 = .ok (.bipush 30, 2) := by decide +kernel
theorem dX6_init_31 : decode cX6_init 31 = .ok (.newarray .int, 2) := by decide +kernel
theorem dX6_init_33 : decode cX6_init 33 = .ok (.putfield 21, 3) := by decide +kernel
theorem dX6_init_36 : decode cX6_init 36 = .ok (.aload_n 0, 1) := by decide +kernel
theorem dX6_init_37 : decode cX6_init 37 = .ok (.bipush 30, 2) := by decide +kernel
theorem dX6_init_39 : decode cX6_init 39 = .ok (.newarray .int, 2) := by decide +kernel
theorem dX6_init_41 : decode cX6_init 41 = .ok (.putfield 24, 3) := by decide +kernel
theorem dX6_init_44 : decode cX6_init 44 = .ok (.aload_n 0, 1) := by decide +kernel
theorem dX6_init_45 : decode cX6_init 45 = .ok (.bipush 30, 2) := by decide +kernel
theorem dX6_init_47 : decode cX6_init 47 = .ok (.newarray .int, 2) := by decide +kernel
theorem dX6_init_49 : decode cX6_init 49 = .ok (.putfield 27, 3) := by decide +kernel
theorem dX6_init_52 : decode cX6_init 52 = .ok (.aload_n 0, 1) := by decide +kernel
theorem dX6_init_53 : decode cX6_init 53 = .ok (.bipush 30, 2) := by decide +kernel
theorem dX6_init_55 : decode cX6_init 55 = .ok (.newarray .int, 2) := by decide +kernel
theorem dX6_init_57 : decode cX6_init 57 = .ok (.putfield 30, 3) := by decide +kernel
theorem dX6_init_60 : decode cX6_init 60 = .ok (.aload_n 0, 1) := by decide +kernel
theorem dX6_init_61 : decode cX6_init 61 = .ok (.bipush 30, 2) := by decide +kernel
theorem dX6_init_63 : decode cX6_init 63 = .ok (.newarray .int, 2) := by decide +kernel
theorem dX6_init_65 : decode cX6_init 65 = .ok (.putfield 33, 3) := by decide +kernel
theorem dX6_init_68 : decode cX6_init 68 = .ok (.aload_n 0, 1) := by decide +kernel
theorem dX6_init_69 : decode cX6_init 69 = .ok (.bipush 30, 2) := by decide +kernel
theorem dX6_init_71 : decode cX6_init 71 = .ok (.newarray .int, 2) := by decide +kernel
theorem dX6_init_73 : decode cX6_init 73 = .ok (.putfield 36, 3) := by decide +kernel
theorem dX6_init_76 : decode cX6_init 76 = .ok (.aload_n 0, 1) := by decide +kernel
theorem dX6_init_77 : decode cX6_init 77 = .ok (.bipush 30, 2) := by decide +kernel
theorem dX6_init_79 : decode cX6_init 79 = .ok (.newarray .int, 2) := by decide +kernel
theorem dX6_init_81 : decode cX6_init 81 = .ok (.putfield 39, 3) := by decide +kernel
theorem dX6_init_84 : decode cX6_init 84 = .ok (.aload_n 0, 1) := by decide +kernel
theorem dX6_init_85 : decode cX6_init 85 = .ok (.bipush 70, 2) := by decide +kernel
theorem dX6_init_87 : decode cX6_init 87 = .ok (.newarray .int, 2) := by decide +kernel
theorem dX6_init_89 : decode cX6_init 89 = .ok (.putfield 42, 3) := by decide +kernel
theorem dX6_init_92 : decode cX6_init 92 = .ok (.aload_n 0, 1) := by decide +kernel
theorem dX6_init_93 : decode cX6_init 93 = .ok (.bipush 70, 2) := by decide +kernel
theorem dX6_init_95 : decode cX6_init 95 = .ok (.newarray .int, 2) := by decide +kernel
theorem dX6_init_97 : decode cX6_init 97 = .ok (.putfield 45, 3) := by decide +kernel
theorem dX6_init_100 : decode cX6_init 100 = .ok (.return_, 1) := by decide +kernel
set_option maxRecDepth 20000 in
theorem ggX6_copyFrom_X9_copyRow : GoodIn wsX6_copyFrom wsX9_copyRow := goodIn_r _ [17, 18, 19, 20, 21, 22, 23, 24, 25] (by decide +kernel) (by decide +kernel)
set_option maxRecDepth 20000 in
theorem gX6_copyFrom_X9_copyRow_n55 : GoodIn wsX6_copyFrom (wsX9_copyRow) := ggX6_copyFrom_X9_copyRow
theorem dX6_copyFrom_0 : decode cX6_copyFrom 0 = .ok (.aload_n 0, 1) := by decide +kernel
theorem dX6_copyFrom_1 : decode cX6_copyFrom 1 = .ok (.aload_n 1, 1) := by decide +kernel
theorem dX6_copyFrom_2 : decode cX6_copyFrom 2 = .ok (.getfield 48, 3) := by decide +kernel
theorem dX6_copyFrom_5 : decode cX6_copyFrom 5 = .ok (.putfield 48, 3) := by decide +kernel
theorem dX6_copyFrom_8 : decode cX6_copyFrom 8 = .ok (.aload_n 0, 1) := by decide +kernel
theorem dX6_copyFrom_9 : decode cX6_copyFrom 9 = .ok (.aload_n 1, 1) := by decide +kernel
theorem dX6_copyFrom_10 : decode cX6_copyFrom 10 = .ok (.getfield 52, 3) := by decide +kernel
theorem dX6_copyFrom_13 : decode cX6_copyFrom 13 = .ok (.putfield 52, 3) := by decide +kernel
theorem dX6_copyFrom_16 : decode cX6_copyFrom 16 = .ok (.aload_n 1, 1) := by decide +kernel
theorem dX6_copyFrom_17 : decode cX6_copyFrom 17 = .ok (.getfield 9, 3) := by decide +kernel
theorem dX6_copyFrom_20 : decode cX6_copyFrom 20 = .ok (.aload_n 0, 1) := by decide +kernel
theorem dX6_copyFrom_21 : decode cX6_copyFrom 21 = .ok (.getfield 9, 3) := by decide +kernel
theorem dX6_copyFrom_24 : decode cX6_copyFrom 24 = .ok (.invokestatic 55, 3) := by decide +kernel
theorem dX6_copyFrom_27 : decode cX6_copyFrom 27 = .ok (.aload_n 1, 1) := by decide +kernel
theorem dX6_copyFrom_28 : decode cX6_copyFrom 28 = .ok (.getfield 15, 3) := by decide +kernel
theorem dX6_copyFrom_31 : decode cX6_copyFrom 31 = .ok (.aload_n 0, 1) := by decide +kernel
theorem dX6_copyFrom_32 : decode cX6_copyFrom 32 = .ok (.getfield 15, 3) := by decide +kernel
theorem dX6_copyFrom_35 : decode cX6_copyFrom 35 = .ok (.invokestatic 55, 3) := by decide +kernel
theorem dX6_copyFrom_38 : decode cX6_copyFrom 38 = .ok (.aload_n 1, 1) := by decide +kernel
theorem dX6_copyFrom_39 : decode cX6_copyFrom 39 = .ok (.getfield 18, 3) := by decide +kernel
theorem dX6_copyFrom_42 : decode cX6_copyFrom 42 = .ok (.aload_n 0, 1) := by decide +kernel
theorem dX6_copyFrom_43 : decode cX6_copyFrom 43 = .ok (.getfield 18, 3) := by decide +kernel
theorem dX6_copyFrom_46 : decode cX6_copyFrom 46 = .ok (.invokestatic 55, 3) := by decide +kernel
theorem dX6_copyFrom_49 : decode cX6_copyFrom 49 = .ok (.aload_n 1, 1) := by decide +kernel
theorem dX6_copyFrom_50 : decode cX6_copyFrom 50 = .ok (.getfield 21, 3) := by decide +kernel
theorem dX6_copyFrom_53 : decode cX6_copyFrom 53 = .ok (.aload_n 0, 1) := by decide +kernel
theorem dX6_copyFrom_54 : decode cX6_copyFrom 54 = .ok (.getfield 21, 3) := by decide +kernel
theorem dX6_copyFrom_57 : decode cX6_copyFrom 57 = .ok (.invokestatic 55, 3) := by decide +kernel
theorem dX6_copyFrom_60 : decode cX6_copyFrom 60 = .ok (.aload_n 1, 1) := by decide +kernel
theorem dX6_copyFrom_61 : decode cX6_copyFrom 61 = .ok (.getfield 24, 3) := by decide +kernel
theorem dX6_copyFrom_64 : decode cX6_copyFrom 64 = .ok (.aload_n 0, 1) := by decide +kernel
theorem dX6_copyFrom_65 : decode cX6_copyFrom 65 = .ok (.getfield 24, 3) := by decide +kernel
theorem dX6_copyFrom_68 : decode cX6_copyFrom 68 = .ok (.invokestatic 55, 3) := by decide +kernel
theorem dX6_copyFrom_71 : decode cX6_copyFrom 71 = .ok (.aload_n 1, 1) := by decide +kernel
theorem dX6_copyFrom_72 : decode cX6_copyFrom 72 = .ok (.getfield 27, 3) := by decide +kernel
theorem dX6_copyFrom_75 : decode cX6_copyFrom 75 = .ok (.aload_n 0, 1) := by decide +kernel
theorem dX6_copyFrom_76 : decode cX6_copyFrom 76 = .ok (.getfield 27, 3) := by decide +kernel
theorem dX6_copyFrom_79 : decode cX6_copyFrom 79 = .ok (.invokestatic 55, 3) := by decide +kernel
theorem dX6_copyFrom_82 : decode cX6_copyFrom 82 = .ok (.aload_n 1, 1) := by decide +kernel
theorem dX6_copyFrom_83 : decode cX6_copyFrom 83 = .ok (.getfield 30, 3) := by decide +kernel
theorem dX6_copyFrom_86 : decode cX6_copyFrom 86 = .ok (.aload_n 0, 1) := by decide +kernel
theorem dX6_copyFrom_87 : decode cX6_copyFrom 87 = .ok (.getfield 30, 3) := by decide +kernel
theorem dX6_copyFrom_90 : decode cX6_copyFrom 90 = .ok (.invokestatic 55, 3) := by decide +kernel
theorem dX6_copyFrom_93 : decode cX6_copyFrom 93 = .ok (.aload_n 1, 1) := by decide +kernel
theorem dX6_copyFrom_94 : decode cX6_copyFrom 94 = .ok (.getfield 33, 3) := by decide +kernel
theorem dX6_copyFrom_97 : decode cX6_copyFrom 97 = .ok (.aload_n 0, 1) := by decide +kernel
theorem dX6_copyFrom_98 : decode cX6_copyFrom 98 = .ok (.getfield 33, 3) := by decide +kernel
theorem dX6_copyFrom_101 : decode cX6_copyFrom 101 = .ok (.invokestatic 55, 3) := by decide +kernel
theorem dX6_copyFrom_104 : decode cX6_copyFrom 104 = .ok (.aload_n 1, 1) := by decide +kernel
theorem dX6_copyFrom_105 : decode cX6_copyFrom 105 = .ok (.getfield 36, 3) := by decide +kernel
theorem dX6_copyFrom_108 : decode cX6_copyFrom 108 = .ok (.aload_n 0, 1) := by decide +kernel
theorem dX6_copyFrom_109 : decode cX6_copyFrom 109 = .ok (.getfield 36, 3) := by decide +kernel
theorem dX6_copyFrom_112 : decode cX6_copyFrom 112 = .ok (.invokestatic 55, 3) := by decide +kernel
theorem dX6_copyFrom_115 : decode cX6_copyFrom 115 = .ok (.aload_n 1, 1) := by decide +kernel
theorem dX6_copyFrom_116 : decode cX6_copyFrom 116 = .ok (.getfield 39, 3) := by decide +kernel
theorem dX6_copyFrom_119 : decode cX6_copyFrom 119 = .ok (.aload_n 0, 1) := by decide +kernel
theorem dX6_copyFrom_120 : decode cX6_copyFrom 120 = .ok (.getfield 39, 3) := by decide +kernel
theorem dX6_copyFrom_123 : decode cX6_copyFrom 123 = .ok (.invokestatic 55, 3) := by decide +kernel
theorem dX6_copyFrom_126 : decode cX6_copyFrom 126 = .ok (.aload_n 1, 1) := by decide +kernel
theorem dX6_copyFrom_127 : decode cX6_copyFrom 127 = .ok (.getfield 42, 3) := by decide +kernel
theorem dX6_copyFrom_130 : decode cX6_copyFrom 130 = .ok (.aload_n 0, 1) := by decide +kernel
theorem dX6_copyFrom_131 : decode cX6_copyFrom 131 = .ok (.getfield 42, 3) := by decide +kernel
theorem dX6_copyFrom_134 : decode cX6_copyFrom 134 = .ok (.invokestatic 55, 3) := by decide +kernel
theorem dX6_copyFrom_137 : decode cX6_copyFrom 137 = .ok (.aload_n 1, 1) := by decide +kernel
theorem dX6_copyFrom_138 : decode cX6_copyFrom 138 = .ok (.getfield 45, 3) := by decide +kernel
theorem dX6_copyFrom_141 : decode cX6_copyFrom 141 = .ok (.aload_n 0, 1) := by decide +kernel
theorem dX6_copyFrom_142 : decode cX6_copyFrom 142 = .ok (.getfield 45, 3) := by decide +kernel
theorem dX6_copyFrom_145 : decode cX6_copyFrom 145 = .ok (.invokestatic 55, 3) := by decide +kernel
theorem dX6_copyFrom_148 : decode cX6_copyFrom 148 = .ok (.return_, 1) := by decide +kernel
theorem dX6_append_0 : decode cX6_append 0 = .ok (.aload_n 0, 1) := by decide +kernel
theorem dX6_append_1 : decode cX6_append 1 = .ok (.getfield 48, 3) := by decide +kernel
theorem dX6_append_4 : decode cX6_append 4 = .ok (.istore 6, 2) := by decide +kernel
theorem dX6_append_6 : decode cX6_append 6 = .ok (.aload_n 0, 1) := by decide +kernel
theorem dX6_append_7 : decode cX6_append 7 = .ok (.getfield 9, 3) := by decide +kernel
theorem dX6_append_10 : decode cX6_append 10 = .ok (.iload 6, 2) := by decide +kernel
theorem dX6_append_12 : decode cX6_append 12 = .ok (.iload_n 1, 1) := by decide +kernel
theorem dX6_append_13 : decode cX6_append 13 = .ok (.iastore, 1) := by decide +kernel
theorem dX6_append_14 : decode cX6_append 14 = .ok (.aload_n 0, 1) := by decide +kernel
theorem dX6_append_15 : decode cX6_append 15 = .ok (.getfield 15, 3) := by decide +kernel
theorem dX6_append_18 : decode cX6_append 18 = .ok (.iload 6, 2) := by decide +kernel
theorem dX6_append_20 : decode cX6_append 20 = .ok (.iload_n 2, 1) := by decide +kernel
theorem dX6_append_21 : decode cX6_append 21 = .ok (.iastore, 1) := by decide +kernel
theorem dX6_append_22 : decode cX6_append 22 = .ok (.aload_n 0, 1) := by decide +kernel
theorem dX6_append_23 : decode cX6_append 23 = .ok (.getfield 24, 3) := by decide +kernel
theorem dX6_append_26 : decode cX6_append 26 = .ok (.iload 6, 2) := by decide +kernel
theorem dX6_append_28 : decode cX6_append 28 = .ok (.iload_n 3, 1) := by decide +kernel
theorem dX6_append_29 : decode cX6_append 29 = .ok (.iastore, 1) := by decide +kernel
theorem dX6_append_30 : decode cX6_append 30 = .ok (.aload_n 0, 1) := by decide +kernel
theorem dX6_append_31 : decode cX6_append 31 = .ok (.getfield 27, 3) := by decide +kernel
theorem dX6_append_34 : decode cX6_append 34 = .ok (.iload 6, 2) := by decide +kernel
theorem dX6_append_36 : decode cX6_append 36 = .ok (.iload 4, 2) := by decide +kernel
theorem dX6_append_38 : decode cX6_append 38 = .ok (.ifCond .eq 7, 3) := by decide +kernel
theorem dX6_append_41 : decode cX6_append 41 = .ok (.iconst 1, 1) := by decide +kernel
theorem dX6_append_42 : decode cX6_append 42 = .ok (.goto 4, 3) := by decide +kernel
theorem dX6_append_45 : decode cX6_append 45 = .ok (.iconst 0, 1) := by decide +kernel
theorem dX6_append_46 : decode cX6_append 46 = .ok (.iastore, 1) := by decide +kernel
theorem dX6_append_47 : decode cX6_append 47 = .ok (.aload_n 0, 1) := by decide +kernel
theorem dX6_append_48 : decode cX6_append 48 = .ok (.getfield 36, 3) := by decide +kernel
theorem dX6_append_51 : decode cX6_append 51 = .ok (.iload 6, 2) := by decide +kernel
theorem dX6_append_53 : decode cX6_append 53 = .ok (.iload 5, 2) := by decide +kernel
theorem dX6_append_55 : decode cX6_append 55 = .ok (.iastore, 1) := by decide +kernel
theorem dX6_append_56 : decode cX6_append 56 = .ok (.aload_n 0, 1) := by decide +kernel
theorem dX6_append_57 : decode cX6_append 57 = .ok (.getfield 39, 3) := by decide +kernel
theorem dX6_append_60 : decode cX6_append 60 = .ok (.iload 6, 2) := by decide +kernel
theorem dX6_append_62 : decode cX6_append 62 = .ok (.aload_n 0, 1) := by decide +kernel
theorem dX6_append_63 : decode cX6_append 63 = .ok (.getfield 52, 3) := by decide +kernel
theorem dX6_append_66 : decode cX6_append 66 = .ok (.iastore, 1) := by decide +kernel
theorem dX6_append_67 : decode cX6_append 67 = .ok (.aload_n 0, 1) := by decide +kernel
theorem dX6_append_68 : decode cX6_append 68 = .ok (.dup, 1) := by decide +kernel
theorem dX6_append_69 : decode cX6_append 69 = .ok (.getfield 48, 3) := by decide +kernel
theorem dX6_append_72 : decode cX6_append 72 = .ok (.iconst 1, 1) := by decide +kernel
theorem dX6_append_73 : decode cX6_append 73 = .ok (.iadd, 1) := by decide +kernel
theorem dX6_append_74 : decode cX6_append 74 = .ok (.putfield 48, 3) := by decide +kernel
theorem dX6_append_77 : decode cX6_append 77 = .ok (.return_, 1) := by decide +kernel
theorem dX6_appendTake_0 : decode cX6_appendTake 0 = .ok (.aload_n 0, 1) := by decide +kernel
theorem dX6_appendTake_1 : decode cX6_appendTake 1 = .ok (.getfield 48, 3) := by decide +kernel
theorem dX6_appendTake_4 : decode cX6_appendTake 4 = .ok (.ifCond .eq 12, 3) := by decide +kernel
theorem dX6_appendTake_7 : decode cX6_appendTake 7 = .ok (.aload_n 0, 1) := by decide +kernel
theorem dX6_appendTake_8 : decode cX6_appendTake 8 = .ok (.getfield 52, 3) := by decide +kernel
theorem dX6_appendTake_11 : decode cX6_appendTake 11 = .ok (.bipush 70, 2) := by decide +kernel
theorem dX6_appendTake_13 : decode cX6_appendTake 13 = .ok (.if_icmp .lt 4, 3) := by decide +kernel
theorem dX6_appendTake_16 : decode cX6_appendTake 16 = .ok (.return_, 1) := by decide +kernel
theorem dX6_appendTake_17 : decode cX6_appendTake 17 = .ok (.aload_n 0, 1) := by decide +kernel
theorem dX6_appendTake_18 : decode cX6_appendTake 18 = .ok (.getfield 42, 3) := by decide +kernel
theorem dX6_appendTake_21 : decode cX6_appendTake 21 = .ok (.aload_n 0, 1) := by decide +kernel
theorem dX6_appendTake_22 : decode cX6_appendTake 22 = .ok (.getfield 52, 3) := by decide +kernel
theorem dX6_appendTake_25 : decode cX6_appendTake 25 = .ok (.iload_n 1, 1) := by decide +kernel
theorem dX6_appendTake_26 : decode cX6_appendTake 26 = .ok (.iastore, 1) := by decide +kernel
theorem dX6_appendTake_27 : decode cX6_appendTake 27 = .ok (.aload_n 0, 1) := by decide +kernel
theorem dX6_appendTake_28 : decode cX6_appendTake 28 = .ok (.getfield 45, 3) := by decide +kernel
theorem dX6_appendTake_31 : decode cX6_appendTake 31 = .ok (.aload_n 0, 1) := by decide +kernel
theorem dX6_appendTake_32 : decode cX6_appendTake 32 = .ok (.getfield 52, 3) := by decide +kernel
theorem dX6_appendTake_35 : decode cX6_appendTake 35 = .ok (.iload_n 2, 1) := by decide +kernel
theorem dX6_appendTake_36 : decode cX6_appendTake 36 = .ok (.iastore, 1) := by decide +kernel
theorem dX6_appendTake_37 : decode cX6_appendTake 37 = .ok (.aload_n 0, 1) := by decide +kernel
theorem dX6_appendTake_38 : decode cX6_appendTake 38 = .ok (.dup, 1) := by decide +kernel
theorem dX6_appendTake_39 : decode cX6_appendTake 39 = .ok (.getfield 52, 3) := by decide +kernel
theorem dX6_appendTake_42 : decode cX6_appendTake 42 = .ok (.iconst 1, 1) := by decide +kernel
theorem dX6_appendTake_43 : decode cX6_appendTake 43 = .ok (.iadd, 1) := by decide +kernel
theorem dX6_appendTake_44 : decode cX6_appendTake 44 = .ok (.putfield 52, 3) := by decide +kernel
theorem dX6_appendTake_47 : decode cX6_appendTake 47 = .ok (.aload_n 0, 1) := by decide +kernel
theorem dX6_appendTake_48 : decode cX6_appendTake 48 = .ok (.getfield 30, 3) := by decide +kernel
theorem dX6_appendTake_51 : decode cX6_appendTake 51 = .ok (.aload_n 0, 1) := by decide +kernel
theorem dX6_appendTake_52 : decode cX6_appendTake 52 = .ok (.getfield 48, 3) := by decide +kernel
theorem dX6_appendTake_55 : decode cX6_appendTake 55 = .ok (.iconst 1, 1) := by decide +kernel
theorem dX6_appendTake_56 : decode cX6_appendTake 56 = .ok (.isub, 1) := by decide +kernel
theorem dX6_appendTake_57 : decode cX6_appendTake 57 = .ok (.dup2, 1) := by decide +kernel
theorem dX6_appendTake_58 : decode cX6_appendTake 58 = .ok (.iaload, 1) := by decide +kernel
theorem dX6_appendTake_59 : decode cX6_appendTake 59 = .ok (.iconst 1, 1) := by decide +kernel
theorem dX6_appendTake_60 : decode cX6_appendTake 60 = .ok (.iadd, 1) := by decide +kernel
theorem dX6_appendTake_61 : decode cX6_appendTake 61 = .ok (.iastore, 1) := by decide +kernel
theorem dX6_appendTake_62 : decode cX6_appendTake 62 = .ok (.return_, 1) := by decide +kernel
theorem dX6_endLast_0 : decode cX6_endLast 0 = .ok (.aload_n 0, 1) := by decide +kernel
theorem dX6_endLast_1 : decode cX6_endLast 1 = .ok (.getfield 48, 3) := by decide +kernel
theorem dX6_endLast_4 : decode cX6_endLast 4 = .ok (.ifCond .ne 4, 3) := by decide +kernel
theorem dX6_endLast_7 : decode cX6_endLast 7 = .ok (.return_, 1) := by decide +kernel
theorem dX6_endLast_8 : decode cX6_endLast 8 = .ok (.aload_n 0, 1) := by decide +kernel
theorem dX6_endLast_9 : decode cX6_endLast 9 = .ok (.getfield 18, 3) := by decide +kernel
theorem dX6_endLast_12 : decode cX6_endLast 12 = .ok (.aload_n 0, 1) := by decide +kernel
theorem dX6_endLast_13 : decode cX6_endLast 13 = .ok (.getfield 48, 3) := by decide +kernel
theorem dX6_endLast_16 : decode cX6_endLast 16 = .ok (.iconst 1, 1) := by decide +kernel
theorem dX6_endLast_17 : decode cX6_endLast 17 = .ok (.isub, 1) := by decide +kernel
theorem dX6_endLast_18 : decode cX6_endLast 18 = .ok (.iload_n 1, 1) := by decide +kernel
theorem dX6_endLast_19 : decode cX6_endLast 19 = .ok (.iastore, 1) := by decide +kernel
theorem dX6_endLast_20 : decode cX6_endLast 20 = .ok (.aload_n 0, 1) := by decide +kernel
theorem dX6_endLast_21 : decode cX6_endLast 21 = .ok (.getfield 21, 3) := by decide +kernel
theorem dX6_endLast_24 : decode cX6_endLast 24 = .ok (.aload_n 0, 1) := by decide +kernel
theorem dX6_endLast_25 : decode cX6_endLast 25 = .ok (.getfield 48, 3) := by decide +kernel
theorem dX6_endLast_28 : decode cX6_endLast 28 = .ok (.iconst 1, 1) := by decide +kernel
theorem dX6_endLast_29 : decode cX6_endLast 29 = .ok (.isub, 1) := by decide +kernel
theorem dX6_endLast_30 : decode cX6_endLast 30 = .ok (.iload_n 2, 1) := by decide +kernel
theorem dX6_endLast_31 : decode cX6_endLast 31 = .ok (.iastore, 1) := by decide +kernel
theorem dX6_endLast_32 : decode cX6_endLast 32 = .ok (.aload_n 0, 1) := by decide +kernel
theorem dX6_endLast_33 : decode cX6_endLast 33 = .ok (.getfield 33, 3) := by decide +kernel
theorem dX6_endLast_36 : decode cX6_endLast 36 = .ok (.aload_n 0, 1) := by decide +kernel
theorem dX6_endLast_37 : decode cX6_endLast 37 = .ok (.getfield 48, 3) := by decide +kernel
theorem dX6_endLast_40 : decode cX6_endLast 40 = .ok (.iconst 1, 1) := by decide +kernel
theorem dX6_endLast_41 : decode cX6_endLast 41 = .ok (.isub, 1) := by decide +kernel
theorem dX6_endLast_42 : decode cX6_endLast 42 = .ok (.iload_n 3, 1) := by decide +kernel
theorem dX6_endLast_43 : decode cX6_endLast 43 = .ok (.iastore, 1) := by decide +kernel
theorem dX6_endLast_44 : decode cX6_endLast 44 = .ok (.return_, 1) := by decide +kernel
theorem dX6_sum_0 : decode cX6_sum 0 = .ok (.iconst 0, 1) := by decide +kernel
theorem dX6_sum_1 : decode cX6_sum 1 = .ok (.istore_n 2, 1) := by decide +kernel
theorem dX6_sum_2 : decode cX6_sum 2 = .ok (.iconst 0, 1) := by decide +kernel
theorem dX6_sum_3 : decode cX6_sum 3 = .ok (.istore_n 3, 1) := by decide +kernel
theorem dX6_sum_4 : decode cX6_sum 4 = .ok (.iload_n 3, 1) := by decide +kernel
theorem dX6_sum_5 : decode cX6_sum 5 = .ok (.aload_n 0, 1) := by decide +kernel
theorem dX6_sum_6 : decode cX6_sum 6 = .ok (.getfield 48, 3) := by decide +kernel
theorem dX6_sum_9 : decode cX6_sum 9 = .ok (.if_icmp .ge 15, 3) := by decide +kernel
theorem dX6_sum_12 : decode cX6_sum 12 = .ok (.iload_n 2, 1) := by decide +kernel
theorem dX6_sum_13 : decode cX6_sum 13 = .ok (.aload_n 1, 1) := by decide +kernel
theorem dX6_sum_14 : decode cX6_sum 14 = .ok (.iload_n 3, 1) := by decide +kernel
theorem dX6_sum_15 : decode cX6_sum 15 = .ok (.iaload, 1) := by decide +kernel
theorem dX6_sum_16 : decode cX6_sum 16 = .ok (.iadd, 1) := by decide +kernel
theorem dX6_sum_17 : decode cX6_sum 17 = .ok (.istore_n 2, 1) := by decide +kernel
theorem dX6_sum_18 : decode cX6_sum 18 = .ok (.iinc 3 1, 3) := by decide +kernel
theorem dX6_sum_21 : decode cX6_sum 21 = .ok (.goto (-17), 3) := by decide +kernel
theorem dX6_sum_24 : decode cX6_sum 24 = .ok (.iload_n 2, 1) := by decide +kernel
theorem dX6_sum_25 : decode cX6_sum 25 = .ok (.ireturn, 1) := by decide +kernel
theorem dX6_gotForGood_0 : decode cX6_gotForGood 0 = .ok (.iconst 0, 1) := by decide +kernel
theorem dX6_gotForGood_1 : decode cX6_gotForGood 1 = .ok (.istore_n 2, 1) := by decide +kernel
theorem dX6_gotForGood_2 : decode cX6_gotForGood 2 = .ok (.iconst 0, 1) := by decide +kernel
theorem dX6_gotForGood_3 : decode cX6_gotForGood 3 = .ok (.istore_n 3, 1) := by decide +kernel
theorem dX6_gotForGood_4 : decode cX6_gotForGood 4 = .ok (.iload_n 3, 1) := by decide +kernel
theorem dX6_gotForGood_5 : decode cX6_gotForGood 5 = .ok (.aload_n 0, 1) := by decide +kernel
theorem dX6_gotForGood_6 : decode cX6_gotForGood 6 = .ok (.getfield 48, 3) := by decide +kernel
theorem dX6_gotForGood_9 : decode cX6_gotForGood 9 = .ok (.if_icmp .ge 28, 3) := by decide +kernel
theorem dX6_gotForGood_12 : decode cX6_gotForGood 12 = .ok (.aload_n 0, 1) := by decide +kernel
theorem dX6_gotForGood_13 : decode cX6_gotForGood 13 = .ok (.getfield 9, 3) := by decide +kernel
theorem dX6_gotForGood_16 : decode cX6_gotForGood 16 = .ok (.iload_n 3, 1) := by decide +kernel
theorem dX6_gotForGood_17 : decode cX6_gotForGood 17 = .ok (.iaload, 1) := by decide +kernel
theorem dX6_gotForGood_18 : decode cX6_gotForGood 18 = .ok (.iload_n 1, 1) := by decide +kernel
theorem dX6_gotForGood_19 : decode cX6_gotForGood 19 = .ok (.if_icmp .ne 12, 3) := by decide +kernel
theorem dX6_gotForGood_22 : decode cX6_gotForGood 22 = .ok (.iload_n 2, 1) := by decide +kernel
theorem dX6_gotForGood_23 : decode cX6_gotForGood 23 = .ok (.aload_n 0, 1) := by decide +kernel
theorem dX6_gotForGood_24 : decode cX6_gotForGood 24 = .ok (.getfield 18, 3) := by decide +kernel
theorem dX6_gotForGood_27 : decode cX6_gotForGood 27 = .ok (.iload_n 3, 1) := by decide +kernel
theorem dX6_gotForGood_28 : decode cX6_gotForGood 28 = .ok (.iaload, 1) := by decide +kernel
theorem dX6_gotForGood_29 : decode cX6_gotForGood 29 = .ok (.iadd, 1) := by decide +kernel
theorem dX6_gotForGood_30 : decode cX6_gotForGood 30 = .ok (.istore_n 2, 1) := by decide +kernel
theorem dX6_gotForGood_31 : decode cX6_gotForGood 31 = .ok (.iinc 3 1, 3) := by decide +kernel
theorem dX6_gotForGood_34 : decode cX6_gotForGood 34 = .ok (.goto (-30), 3) := by decide +kernel
theorem dX6_gotForGood_37 : decode cX6_gotForGood 37 = .ok (.iload_n 2, 1) := by decide +kernel
theorem dX6_gotForGood_38 : decode cX6_gotForGood 38 = .ok (.ireturn, 1) := by decide +kernel
theorem dX6_refused_0 : decode cX6_refused 0 = .ok (.iconst 0, 1) := by decide +kernel
theorem dX6_refused_1 : decode cX6_refused 1 = .ok (.istore_n 1, 1) := by decide +kernel
theorem dX6_refused_2 : decode cX6_refused 2 = .ok (.iconst 0, 1) := by decide +kernel
theorem dX6_refused_3 : decode cX6_refused 3 = .ok (.istore_n 2, 1) := by decide +kernel
theorem dX6_refused_4 : decode cX6_refused 4 = .ok (.iload_n 2, 1) := by decide +kernel
theorem dX6_refused_5 : decode cX6_refused 5 = .ok (.aload_n 0, 1) := by decide +kernel
theorem dX6_refused_6 : decode cX6_refused 6 = .ok (.getfield 48, 3) := by decide +kernel
theorem dX6_refused_9 : decode cX6_refused 9 = .ok (.if_icmp .ge 21, 3) := by decide +kernel
theorem dX6_refused_12 : decode cX6_refused 12 = .ok (.aload_n 0, 1) := by decide +kernel
theorem dX6_refused_13 : decode cX6_refused 13 = .ok (.getfield 18, 3) := by decide +kernel
theorem dX6_refused_16 : decode cX6_refused 16 = .ok (.iload_n 2, 1) := by decide +kernel
theorem dX6_refused_17 : decode cX6_refused 17 = .ok (.iaload, 1) := by decide +kernel
theorem dX6_refused_18 : decode cX6_refused 18 = .ok (.ifCond .ne 6, 3) := by decide +kernel
theorem dX6_refused_21 : decode cX6_refused 21 = .ok (.iinc 1 1, 3) := by decide +kernel
theorem dX6_refused_24 : decode cX6_refused 24 = .ok (.iinc 2 1, 3) := by decide +kernel
theorem dX6_refused_27 : decode cX6_refused 27 = .ok (.goto (-23), 3) := by decide +kernel
theorem dX6_refused_30 : decode cX6_refused 30 = .ok (.iload_n 1, 1) := by decide +kernel
theorem dX6_refused_31 : decode cX6_refused 31 = .ok (.ireturn, 1) := by decide +kernel
theorem dX7_init_0 : decode cX7_init 0 = .ok (.aload_n 0, 1) := by decide +kernel
theorem dX7_init_1 : decode cX7_init 1 = .ok (.invokespecial 3, 3) := by decide +kernel
theorem dX7_init_4 : decode cX7_init 4 = .ok (.aload_n 0, 1) := by decide +kernel
theorem dX7_init_5 : decode cX7_init 5 = .ok (.iconst 4, 1) := by decide +kernel
theorem dX7_init_6 : decode cX7_init 6 = .ok (.newarray .int, 2) := by decide +kernel
theorem dX7_init_8 : decode cX7_init 8 = .ok (.dup, 1) := by decide +kernel
theorem dX7_init_9 : decode cX7_init 9 = .ok (.iconst 0, 1) := by decide +kernel
theorem dX7_init_10 : decode cX7_init 10 = .ok (.bipush 100, 2) := by decide +kernel
theorem dX7_init_12 : decode cX7_init 12 = .ok (.iastore, 1) := by decide +kernel
theorem dX7_init_13 : decode cX7_init 13 = .ok (.dup, 1) := by decide +kernel
theorem dX7_init_14 : decode cX7_init 14 = .ok (.iconst 1, 1) := by decide +kernel
theorem dX7_init_15 : decode cX7_init 15 = .ok (.bipush 50, 2) := by decide +kernel
theorem dX7_init_17 : decode cX7_init 17 = .ok (.iastore, 1) := by decide +kernel
theorem dX7_init_18 : decode cX7_init 18 = .ok (.dup, 1) := by decide +kernel
theorem dX7_init_19 : decode cX7_init 19 = .ok (.iconst 2, 1) := by decide +kernel
theorem dX7_init_20 : decode cX7_init 20 = .ok (.bipush 25, 2) := by decide +kernel
theorem dX7_init_22 : decode cX7_init 22 = .ok (.iastore, 1) := by decide +kernel
theorem dX7_init_23 : decode cX7_init 23 = .ok (.dup, 1) := by decide +kernel
theorem dX7_init_24 : decode cX7_init 24 = .ok (.iconst 3, 1) := by decide +kernel
theorem dX7_init_25 : decode cX7_init 25 = .ok (.bipush 10, 2) := by decide +kernel
theorem dX7_init_27 : decode cX7_init 27 = .ok (.iastore, 1) := by decide +kernel
theorem dX7_init_28 : decode cX7_init 28 = .ok (.putfield 9, 3) := by decide +kernel
theorem dX7_init_31 : decode cX7_init 31 = .ok (.aload_n 0, 1) := by decide +kernel
theorem dX7_init_32 : decode cX7_init 32 = .ok (.iconst 4, 1) := by decide +kernel
theorem dX7_init_33 : decode cX7_init 33 = .ok (.newarray .float, 2) := by decide +kernel
theorem dX7_init_35 : decode cX7_init 35 = .ok (.dup, 1) := by decide +kernel
theorem dX7_init_36 : decode cX7_init 36 = .ok (.iconst 0, 1) := by decide +kernel
theorem dX7_init_37 : decode cX7_init 37 = .ok (.fconst 0, 1) := by decide +kernel
theorem dX7_init_38 : decode cX7_init 38 = .ok (.fastore, 1) := by decide +kernel
theorem dX7_init_39 : decode cX7_init 39 = .ok (.dup, 1) := by decide +kernel
theorem dX7_init_40 : decode cX7_init 40 = .ok (.iconst 1, 1) := by decide +kernel
theorem dX7_init_41 : decode cX7_init 41 = .ok (.ldc 15, 2) := by decide +kernel
theorem dX7_init_43 : decode cX7_init 43 = .ok (.fastore, 1) := by decide +kernel
theorem dX7_init_44 : decode cX7_init 44 = .ok (.dup, 1) := by decide +kernel
theorem dX7_init_45 : decode cX7_init 45 = .ok (.iconst 2, 1) := by decide +kernel
theorem dX7_init_46 : decode cX7_init 46 = .ok (.ldc 16, 2) := by decide +kernel
theorem dX7_init_48 : decode cX7_init 48 = .ok (.fastore, 1) := by decide +kernel
theorem dX7_init_49 : decode cX7_init 49 = .ok (.dup, 1) := by decide +kernel
theorem dX7_init_50 : decode cX7_init 50 = .ok (.iconst 3, 1) := by decide +kernel
theorem dX7_init_51 : decode cX7_init 51 = .ok (.ldc 17, 2) := by decide +kernel
theorem dX7_init_53 : decode cX7_init 53 = .ok (.fastore, 1) := by decide +kernel
theorem dX7_init_54 : decode cX7_init 54 = .ok (.putfield 18, 3) := by decide +kernel
theorem dX7_init_57 : decode cX7_init 57 = .ok (.return_, 1) := by decide +kernel
theorem dX7_copyFrom_0 : decode cX7_copyFrom 0 = .ok (.iconst 0, 1) := by decide +kernel
theorem dX7_copyFrom_1 : decode cX7_copyFrom 1 = .ok (.istore_n 2, 1) := by decide +kernel
theorem dX7_copyFrom_2 : decode cX7_copyFrom 2 = .ok (.iload_n 2, 1) := by decide +kernel
theorem dX7_copyFrom_3 : decode cX7_copyFrom 3 = .ok (.iconst 4, 1) := by decide +kernel
theorem dX7_copyFrom_4 : decode cX7_copyFrom 4 = .ok (.if_icmp .ge 33, 3) := by decide +kernel
theorem dX7_copyFrom_7 : decode cX7_copyFrom 7 = .ok (.aload_n 0, 1) := by decide +kernel
theorem dX7_copyFrom_8 : decode cX7_copyFrom 8 = .ok (.getfield 9, 3) := by decide +kernel
theorem dX7_copyFrom_11 : decode cX7_copyFrom 11 = .ok (.iload_n 2, 1) := by decide +kernel
theorem dX7_copyFrom_12 : decode cX7_copyFrom 12 = .ok (.aload_n 1, 1) := by decide +kernel
theorem dX7_copyFrom_13 : decode cX7_copyFrom 13 = .ok (.getfield 9, 3) := by decide +kernel
theorem dX7_copyFrom_16 : decode cX7_copyFrom 16 = .ok (.iload_n 2, 1) := by decide +kernel
theorem dX7_copyFrom_17 : decode cX7_copyFrom 17 = .ok (.iaload, 1) := by decide +kernel
theorem dX7_copyFrom_18 : decode cX7_copyFrom 18 = .ok (.iastore, 1) := by decide +kernel
theorem dX7_copyFrom_19 : decode cX7_copyFrom 19 = .ok (.aload_n 0, 1) := by decide +kernel
theorem dX7_copyFrom_20 : decode cX7_copyFrom 20 = .ok (.getfield 18, 3) := by decide +kernel
theorem dX7_copyFrom_23 : decode cX7_copyFrom 23 = .ok (.iload_n 2, 1) := by decide +kernel
theorem dX7_copyFrom_24 : decode cX7_copyFrom 24 = .ok (.aload_n 1, 1) := by decide +kernel
theorem dX7_copyFrom_25 : decode cX7_copyFrom 25 = .ok (.getfield 18, 3) := by decide +kernel
theorem dX7_copyFrom_28 : decode cX7_copyFrom 28 = .ok (.iload_n 2, 1) := by decide +kernel
theorem dX7_copyFrom_29 : decode cX7_copyFrom 29 = .ok (.faload, 1) := by decide +kernel
theorem dX7_copyFrom_30 : decode cX7_copyFrom 30 = .ok (.fastore, 1) := by decide +kernel
theorem dX7_copyFrom_31 : decode cX7_copyFrom 31 = .ok (.iinc 2 1, 3) := by decide +kernel
theorem dX7_copyFrom_34 : decode cX7_copyFrom 34 = .ok (.goto (-32), 3) := by decide +kernel
theorem dX7_copyFrom_37 : decode cX7_copyFrom 37 = .ok (.return_, 1) := by decide +kernel
theorem dX7_reached_0 : decode cX7_reached 0 = .ok (.iconst 3, 1) := by decide +kernel
theorem dX7_reached_1 : decode cX7_reached 1 = .ok (.istore_n 3, 1) := by decide +kernel
theorem dX7_reached_2 : decode cX7_reached 2 = .ok (.iload_n 3, 1) := by decide +kernel
theorem dX7_reached_3 : decode cX7_reached 3 = .ok (.ifCond .le 26, 3) := by decide +kernel
theorem dX7_reached_6 : decode cX7_reached 6 = .ok (.iload_n 1, 1) := by decide +kernel
theorem dX7_reached_7 : decode cX7_reached 7 = .ok (.bipush 100, 2) := by decide +kernel
theorem dX7_reached_9 : decode cX7_reached 9 = .ok (.imul, 1) := by decide +kernel
theorem dX7_reached_10 : decode cX7_reached 10 = .ok (.aload_n 0, 1) := by decide +kernel
theorem dX7_reached_11 : decode cX7_reached 11 = .ok (.getfield 9, 3) := by decide +kernel
theorem dX7_reached_14 : decode cX7_reached 14 = .ok (.iload_n 3, 1) := by decide +kernel
theorem dX7_reached_15 : decode cX7_reached 15 = .ok (.iaload, 1) := by decide +kernel
theorem dX7_reached_16 : decode cX7_reached 16 = .ok (.iload_n 2, 1) := by decide +kernel
theorem dX7_reached_17 : decode cX7_reached 17 = .ok (.imul, 1) := by decide +kernel
theorem dX7_reached_18 : decode cX7_reached 18 = .ok (.if_icmp .gt 5, 3) := by decide +kernel
theorem dX7_reached_21 : decode cX7_reached 21 = .ok (.iload_n 3, 1) := by decide +kernel
theorem dX7_reached_22 : decode cX7_reached 22 = .ok (.ireturn, 1) := by decide +kernel
theorem dX7_reached_23 : decode cX7_reached 23 = .ok (.iinc 3 (-1), 3) := by decide +kernel
theorem dX7_reached_26 : decode cX7_reached 26 = .ok (.goto (-24), 3) := by decide +kernel
theorem dX7_reached_29 : decode cX7_reached 29 = .ok (.iconst 0, 1) := by decide +kernel
theorem dX7_reached_30 : decode cX7_reached 30 = .ok (.ireturn, 1) := by decide +kernel
set_option maxRecDepth 20000 in
theorem ggX8_init_X3_init : GoodIn wsX8_init wsX3_init := goodIn_r _ [27, 28, 2, 3, 24, 29, 30, 31, 32, 76, 77, 78, 79, 80] (by decide +kernel) (by decide +kernel)
set_option maxRecDepth 20000 in
theorem gX8_init_X3_init_n11 : GoodIn wsX8_init (wsX3_init) := ggX8_init_X3_init
set_option maxRecDepth 20000 in
theorem ggX8_init_X0_init : GoodIn wsX8_init wsX0_init := goodIn_r _ [34, 35, 2, 3, 24, 36, 37, 38, 39, 40, 41, 42, 43, 44, 89, 90, 91, 92, 93, 94, 95, 96, 97] (by decide +kernel) (by decide +kernel)
set_option maxRecDepth 20000 in
theorem gX8_init_X0_init_n20 : GoodIn wsX8_init (wsX0_init) := ggX8_init_X0_init
set_option maxRecDepth 20000 in
theorem ggX8_init_X6_init : GoodIn wsX8_init wsX6_init := goodIn_r _ [46, 47, 2, 3, 24, 48, 49, 50, 51, 52, 53, 54, 55, 56, 57, 58, 59, 98, 99, 100, 101, 102, 103, 104, 105, 106, 107, 108, 109, 110, 111] (by decide +kernel) (by decide +kernel)
set_option maxRecDepth 20000 in
theorem gX8_init_X6_init_n27 : GoodIn wsX8_init (wsX6_init) := ggX8_init_X6_init
set_option maxRecDepth 20000 in
theorem ggX8_init_X7_init : GoodIn wsX8_init wsX7_init := goodIn_r _ [61, 62, 2, 3, 24, 63, 64, 65, 66, 67, 68, 112, 113] (by decide +kernel) (by decide +kernel)
set_option maxRecDepth 20000 in
theorem gX8_init_X7_init_n34 : GoodIn wsX8_init (wsX7_init) := ggX8_init_X7_init
set_option maxRecDepth 20000 in
theorem ggX8_init_X5_init : GoodIn wsX8_init wsX5_init := goodIn_r _ [70, 71, 2, 3, 24, 72, 73, 74, 75, 114, 115, 116, 117, 118, 119] (by decide +kernel) (by decide +kernel)
set_option maxRecDepth 20000 in
theorem gX8_init_X5_init_n41 : GoodIn wsX8_init (wsX5_init) := ggX8_init_X5_init
theorem dX8_init_0 : decode cX8_init 0 = .ok (.aload_n 0, 1) := by decide +kernel
theorem dX8_init_1 : decode cX8_init 1 = .ok (.invokespecial 3, 3) := by decide +kernel
theorem dX8_init_4 : decode cX8_init 4 = .ok (.aload_n 0, 1) := by decide +kernel
theorem dX8_init_5 : decode cX8_init 5 = .ok (.new 9, 3) := by decide +kernel
theorem dX8_init_8 : decode cX8_init 8 = .ok (.dup, 1) := by decide +kernel
theorem dX8_init_9 : decode cX8_init 9 = .ok (.invokespecial 11, 3) := by decide +kernel
theorem dX8_init_12 : decode cX8_init 12 = .ok (.putfield 12, 3) := by decide +kernel
theorem dX8_init_15 : decode cX8_init 15 = .ok (.aload_n 0, 1) := by decide +kernel
theorem dX8_init_16 : decode cX8_init 16 = .ok (.new 18, 3) := by decide +kernel
theorem dX8_init_19 : decode cX8_init 19 = .ok (.dup, 1) := by decide +kernel
theorem dX8_init_20 : decode cX8_init 20 = .ok (.invokespecial 20, 3) := by decide +kernel
theorem dX8_init_23 : decode cX8_init 23 = .ok (.putfield 21, 3) := by decide +kernel
theorem dX8_init_26 : decode cX8_init 26 = .ok (.aload_n 0, 1) := by decide +kernel
theorem dX8_init_27 : decode cX8_init 27 = .ok (.new 25, 3) := by decide +kernel
theorem dX8_init_30 : decode cX8_init 30 = .ok (.dup, 1) := by decide +kernel
theorem dX8_init_31 : decode cX8_init 31 = .ok (.invokespecial 27, 3) := by decide +kernel
theorem dX8_init_34 : decode cX8_init 34 = .ok (.putfield 28, 3) := by decide +kernel
theorem dX8_init_37 : decode cX8_init 37 = .ok (.aload_n 0, 1) := by decide +kernel
theorem dX8_init_38 : decode cX8_init 38 = .ok (.new 32, 3) := by decide +kernel
theorem dX8_init_41 : decode cX8_init 41 = .ok (.dup, 1) := by decide +kernel
theorem dX8_init_42 : decode cX8_init 42 = .ok (.invokespecial 34, 3) := by decide +kernel
theorem dX8_init_45 : decode cX8_init 45 = .ok (.putfield 35, 3) := by decide +kernel
theorem dX8_init_48 : decode cX8_init 48 = .ok (.aload_n 0, 1) := by decide +kernel
theorem dX8_init_49 : decode cX8_init 49 = .ok (.new 39, 3) := by decide +kernel
theorem dX8_init_52 : decode cX8_init 52 = .ok (.dup, 1) := by decide +kernel
theorem dX8_init_53 : decode cX8_init 53 = .ok (.invokespecial 41, 3) := by decide +kernel
theorem dX8_init_56 : decode cX8_init 56 = .ok (.putfield 42, 3) := by decide +kernel
theorem dX8_init_59 : decode cX8_init 59 = .ok (.aload_n 0, 1) := by decide +kernel
theorem dX8_init_60 : decode cX8_init 60 = .ok (.iconst 3, 1) := by decide +kernel
theorem dX8_init_61 : decode cX8_init 61 = .ok (.newarray .int, 2) := by decide +kernel
theorem dX8_init_63 : decode cX8_init 63 = .ok (.dup, 1) := by decide +kernel
theorem dX8_init_64 : decode cX8_init 64 = .ok (.iconst 0, 1) := by decide +kernel
theorem dX8_init_65 : decode cX8_init 65 = .ok (.iconst 0, 1) := by decide +kernel
theorem dX8_init_66 : decode cX8_init 66 = .ok (.iastore, 1) := by decide +kernel
theorem dX8_init_67 : decode cX8_init 67 = .ok (.dup, 1) := by decide +kernel
theorem dX8_init_68 : decode cX8_init 68 = .ok (.iconst 1, 1) := by decide +kernel
theorem dX8_init_69 : decode cX8_init 69 = .ok (.iconst 4, 1) := by decide +kernel
theorem dX8_init_70 : decode cX8_init 70 = .ok (.iastore, 1) := by decide +kernel
theorem dX8_init_71 : decode cX8_init 71 = .ok (.dup, 1) := by decide +kernel
theorem dX8_init_72 : decode cX8_init 72 = .ok (.iconst 2, 1) := by decide +kernel
theorem dX8_init_73 : decode cX8_init 73 = .ok (.bipush 50, 2) := by decide +kernel
theorem dX8_init_75 : decode cX8_init 75 = .ok (.iastore, 1) := by decide +kernel
theorem dX8_init_76 : decode cX8_init 76 = .ok (.putfield 46, 3) := by decide +kernel
theorem dX8_init_79 : decode cX8_init 79 = .ok (.return_, 1) := by decide +kernel
set_option maxRecDepth 20000 in
theorem ggX8_copyFrom_X3_copyFrom : GoodIn wsX8_copyFrom wsX3_copyFrom := goodIn_r _ [13, 14, 15, 16, 17, 18, 19, 20, 21, 22, 23, 24, 25, 26, 27, 28, 29, 89, 90, 91, 92, 93] (by decide +kernel) (by decide +kernel)
set_option maxRecDepth 20000 in
theorem gX8_copyFrom_X3_copyFrom : GoodIn wsX8_copyFrom (wsV RX8 50 RX3 yX3_copyFrom wsX3_copyFrom) := goodIn_app (goodIn_of _ (by decide +kernel)) ggX8_copyFrom_X3_copyFrom
set_option maxRecDepth 20000 in
theorem ggX8_copyFrom_X0_copyFrom : GoodIn wsX8_copyFrom wsX0_copyFrom := goodIn_r _ [34, 35, 36, 37, 38, 39, 40, 41, 42, 43, 19, 20, 21, 22, 23, 24, 25, 26, 27, 28, 29, 94, 95, 96, 97, 98, 99, 100, 101, 102] (by decide +kernel) (by decide +kernel)
set_option maxRecDepth 20000 in
theorem gX8_copyFrom_X0_copyFrom : GoodIn wsX8_copyFrom (wsV RX8 54 RX0 yX0_copyFrom wsX0_copyFrom) := goodIn_app (goodIn_of _ (by decide +kernel)) ggX8_copyFrom_X0_copyFrom
set_option maxRecDepth 20000 in
theorem ggX8_copyFrom_X6_copyFrom : GoodIn wsX8_copyFrom wsX6_copyFrom := goodIn_r _ [48, 49, 50, 51, 52, 53, 54, 55, 56, 57, 58, 59, 60, 61, 62, 19, 20, 21, 22, 23, 24, 25, 26, 27, 28, 29, 103, 104, 105, 106, 107, 108, 109, 110, 111, 112, 113, 114, 115, 116] (by decide +kernel) (by decide +kernel)
set_option maxRecDepth 20000 in
theorem gX8_copyFrom_X6_copyFrom : GoodIn wsX8_copyFrom (wsV RX8 57 RX6 yX6_copyFrom wsX6_copyFrom) := goodIn_app (goodIn_of _ (by decide +kernel)) ggX8_copyFrom_X6_copyFrom
set_option maxRecDepth 20000 in
theorem ggX8_copyFrom_X7_copyFrom : GoodIn wsX8_copyFrom wsX7_copyFrom := goodIn_r _ [67, 68, 69, 117, 118] (by decide +kernel) (by decide +kernel)
set_option maxRecDepth 20000 in
theorem gX8_copyFrom_X7_copyFrom : GoodIn wsX8_copyFrom (wsV RX8 60 RX7 yX7_copyFrom wsX7_copyFrom) := goodIn_app (goodIn_of _ (by decide +kernel)) ggX8_copyFrom_X7_copyFrom
set_option maxRecDepth 20000 in
theorem ggX8_copyFrom_X5_copyFrom : GoodIn wsX8_copyFrom wsX5_copyFrom := goodIn_r _ [74, 75, 76, 77, 78, 79, 80, 19, 20, 21, 22, 23, 24, 25, 26, 27, 28, 29, 119, 120, 121, 122, 123, 124] (by decide +kernel) (by decide +kernel)
set_option maxRecDepth 20000 in
theorem gX8_copyFrom_X5_copyFrom : GoodIn wsX8_copyFrom (wsV RX8 63 RX5 yX5_copyFrom wsX5_copyFrom) := goodIn_app (goodIn_of _ (by decide +kernel)) ggX8_copyFrom_X5_copyFrom
set_option maxRecDepth 20000 in
theorem ggX8_copyFrom_X9_copyRow : GoodIn wsX8_copyFrom wsX9_copyRow := goodIn_r _ [21, 22, 23, 24, 25, 26, 27, 28, 29] (by decide +kernel) (by decide +kernel)
set_option maxRecDepth 20000 in
theorem gX8_copyFrom_X9_copyRow_n66 : GoodIn wsX8_copyFrom (wsX9_copyRow) := ggX8_copyFrom_X9_copyRow
theorem dX8_copyFrom_0 : decode cX8_copyFrom 0 = .ok (.aload_n 0, 1) := by decide +kernel
theorem dX8_copyFrom_1 : decode cX8_copyFrom 1 = .ok (.getfield 12, 3) := by decide +kernel
theorem dX8_copyFrom_4 : decode cX8_copyFrom 4 = .ok (.aload_n 1, 1) := by decide +kernel
theorem dX8_copyFrom_5 : decode cX8_copyFrom 5 = .ok (.getfield 12, 3) := by decide +kernel
theorem dX8_copyFrom_8 : decode cX8_copyFrom 8 = .ok (.invokevirtual 50, 3) := by decide +kernel
theorem dX8_copyFrom_11 : decode cX8_copyFrom 11 = .ok (.aload_n 0, 1) := by decide +kernel
theorem dX8_copyFrom_12 : decode cX8_copyFrom 12 = .ok (.getfield 21, 3) := by decide +kernel
theorem dX8_copyFrom_15 : decode cX8_copyFrom 15 = .ok (.aload_n 1, 1) := by decide +kernel
theorem dX8_copyFrom_16 : decode cX8_copyFrom 16 = .ok (.getfield 21, 3) := by decide +kernel
theorem dX8_copyFrom_19 : decode cX8_copyFrom 19 = .ok (.invokevirtual 54, 3) := by decide +kernel
theorem dX8_copyFrom_22 : decode cX8_copyFrom 22 = .ok (.aload_n 0, 1) := by decide +kernel
theorem dX8_copyFrom_23 : decode cX8_copyFrom 23 = .ok (.getfield 28, 3) := by decide +kernel
theorem dX8_copyFrom_26 : decode cX8_copyFrom 26 = .ok (.aload_n 1, 1) := by decide +kernel
theorem dX8_copyFrom_27 : decode cX8_copyFrom 27 = .ok (.getfield 28, 3) := by decide +kernel
theorem dX8_copyFrom_30 : decode cX8_copyFrom 30 = .ok (.invokevirtual 57, 3) := by decide +kernel
theorem dX8_copyFrom_33 : decode cX8_copyFrom 33 = .ok (.aload_n 0, 1) := by decide +kernel
theorem dX8_copyFrom_34 : decode cX8_copyFrom 34 = .ok (.getfield 35, 3) := by decide +kernel
theorem dX8_copyFrom_37 : decode cX8_copyFrom 37 = .ok (.aload_n 1, 1) := by decide +kernel
theorem dX8_copyFrom_38 : decode cX8_copyFrom 38 = .ok (.getfield 35, 3) := by decide +kernel
theorem dX8_copyFrom_41 : decode cX8_copyFrom 41 = .ok (.invokevirtual 60, 3) := by decide +kernel
theorem dX8_copyFrom_44 : decode cX8_copyFrom 44 = .ok (.aload_n 0, 1) := by decide +kernel
theorem dX8_copyFrom_45 : decode cX8_copyFrom 45 = .ok (.getfield 42, 3) := by decide +kernel
theorem dX8_copyFrom_48 : decode cX8_copyFrom 48 = .ok (.aload_n 1, 1) := by decide +kernel
theorem dX8_copyFrom_49 : decode cX8_copyFrom 49 = .ok (.getfield 42, 3) := by decide +kernel
theorem dX8_copyFrom_52 : decode cX8_copyFrom 52 = .ok (.invokevirtual 63, 3) := by decide +kernel
theorem dX8_copyFrom_55 : decode cX8_copyFrom 55 = .ok (.aload_n 1, 1) := by decide +kernel
theorem dX8_copyFrom_56 : decode cX8_copyFrom 56 = .ok (.getfield 46, 3) := by decide +kernel
theorem dX8_copyFrom_59 : decode cX8_copyFrom 59 = .ok (.aload_n 0, 1) := by decide +kernel
theorem dX8_copyFrom_60 : decode cX8_copyFrom 60 = .ok (.getfield 46, 3) := by decide +kernel
theorem dX8_copyFrom_63 : decode cX8_copyFrom 63 = .ok (.invokestatic 66, 3) := by decide +kernel
theorem dX8_copyFrom_66 : decode cX8_copyFrom 66 = .ok (.aload_n 0, 1) := by decide +kernel
theorem dX8_copyFrom_67 : decode cX8_copyFrom 67 = .ok (.aload_n 1, 1) := by decide +kernel
theorem dX8_copyFrom_68 : decode cX8_copyFrom 68 = .ok (.getfield 70, 3) := by decide +kernel
theorem dX8_copyFrom_71 : decode cX8_copyFrom 71 = .ok (.putfield 70, 3) := by decide +kernel
theorem dX8_copyFrom_74 : decode cX8_copyFrom 74 = .ok (.aload_n 0, 1) := by decide +kernel
theorem dX8_copyFrom_75 : decode cX8_copyFrom 75 = .ok (.aload_n 1, 1) := by decide +kernel
theorem dX8_copyFrom_76 : decode cX8_copyFrom 76 = .ok (.getfield 74, 3) := by decide +kernel
theorem dX8_copyFrom_79 : decode cX8_copyFrom 79 = .ok (.putfield 74, 3) := by decide +kernel
theorem dX8_copyFrom_82 : decode cX8_copyFrom 82 = .ok (.return_, 1) := by decide +kernel
set_option maxRecDepth 20000 in
theorem ggX8_stageOf_X7_reached : GoodIn wsX8_stageOf wsX7_reached := goodIn_r _ [11, 12, 35, 36] (by decide +kernel) (by decide +kernel)
set_option maxRecDepth 20000 in
theorem gX8_stageOf_X7_reached : GoodIn wsX8_stageOf (wsV RX8 87 RX7 yX7_reached wsX7_reached) := goodIn_app (goodIn_of _ (by decide +kernel)) ggX8_stageOf_X7_reached
theorem dX8_stageOf_0 : decode cX8_stageOf 0 = .ok (.aload_n 0, 1) := by decide +kernel
theorem dX8_stageOf_1 : decode cX8_stageOf 1 = .ok (.getfield 35, 3) := by decide +kernel
theorem dX8_stageOf_4 : decode cX8_stageOf 4 = .ok (.aload_n 0, 1) := by decide +kernel
theorem dX8_stageOf_5 : decode cX8_stageOf 5 = .ok (.getfield 21, 3) := by decide +kernel
theorem dX8_stageOf_8 : decode cX8_stageOf 8 = .ok (.getfield 78, 3) := by decide +kernel
theorem dX8_stageOf_11 : decode cX8_stageOf 11 = .ok (.iload_n 1, 1) := by decide +kernel
theorem dX8_stageOf_12 : decode cX8_stageOf 12 = .ok (.iaload, 1) := by decide +kernel
theorem dX8_stageOf_13 : decode cX8_stageOf 13 = .ok (.aload_n 0, 1) := by decide +kernel
theorem dX8_stageOf_14 : decode cX8_stageOf 14 = .ok (.getfield 12, 3) := by decide +kernel
theorem dX8_stageOf_17 : decode cX8_stageOf 17 = .ok (.getfield 81, 3) := by decide +kernel
theorem dX8_stageOf_20 : decode cX8_stageOf 20 = .ok (.aload_n 0, 1) := by decide +kernel
theorem dX8_stageOf_21 : decode cX8_stageOf 21 = .ok (.getfield 21, 3) := by decide +kernel
theorem dX8_stageOf_24 : decode cX8_stageOf 24 = .ok (.getfield 84, 3) := by decide +kernel
theorem dX8_stageOf_27 : decode cX8_stageOf 27 = .ok (.iload_n 1, 1) := by decide +kernel
theorem dX8_stageOf_28 : decode cX8_stageOf 28 = .ok (.iaload, 1) := by decide +kernel
theorem dX8_stageOf_29 : decode cX8_stageOf 29 = .ok (.iaload, 1) := by decide +kernel
theorem dX8_stageOf_30 : decode cX8_stageOf 30 = .ok (.invokevirtual 87, 3) := by decide +kernel
theorem dX8_stageOf_33 : decode cX8_stageOf 33 = .ok (.ireturn, 1) := by decide +kernel
set_option maxRecDepth 20000 in
theorem ggX8_priceOfUnit_X8_stageOf : GoodIn wsX8_priceOfUnit wsX8_stageOf := goodIn_r _ [12, 5, 3, 13, 1, 14, 4, 15, 16, 17, 18, 19, 20, 21, 22, 23, 24, 25, 26, 27, 28, 34, 35, 36, 37, 38, 39, 40, 41, 42, 29, 30, 31, 32, 33, 43, 44] (by decide +kernel) (by decide +kernel)
set_option maxRecDepth 20000 in
theorem gX8_priceOfUnit_X8_stageOf : GoodIn wsX8_priceOfUnit (wsV RX8 98 RX8 yX8_stageOf wsX8_stageOf) := goodIn_app (goodIn_of _ (by decide +kernel)) ggX8_priceOfUnit_X8_stageOf
theorem dX8_priceOfUnit_0 : decode cX8_priceOfUnit 0 = .ok (.aload_n 0, 1) := by decide +kernel
theorem dX8_priceOfUnit_1 : decode cX8_priceOfUnit 1 = .ok (.getfield 12, 3) := by decide +kernel
theorem dX8_priceOfUnit_4 : decode cX8_priceOfUnit 4 = .ok (.getfield 91, 3) := by decide +kernel
theorem dX8_priceOfUnit_7 : decode cX8_priceOfUnit 7 = .ok (.aload_n 0, 1) := by decide +kernel
theorem dX8_priceOfUnit_8 : decode cX8_priceOfUnit 8 = .ok (.getfield 21, 3) := by decide +kernel
theorem dX8_priceOfUnit_11 : decode cX8_priceOfUnit 11 = .ok (.getfield 84, 3) := by decide +kernel
theorem dX8_priceOfUnit_14 : decode cX8_priceOfUnit 14 = .ok (.iload_n 1, 1) := by decide +kernel
theorem dX8_priceOfUnit_15 : decode cX8_priceOfUnit 15 = .ok (.iaload, 1) := by decide +kernel
theorem dX8_priceOfUnit_16 : decode cX8_priceOfUnit 16 = .ok (.iaload, 1) := by decide +kernel
theorem dX8_priceOfUnit_17 : decode cX8_priceOfUnit 17 = .ok (.i2f, 1) := by decide +kernel
theorem dX8_priceOfUnit_18 : decode cX8_priceOfUnit 18 = .ok (.fstore_n 2, 1) := by decide +kernel
theorem dX8_priceOfUnit_19 : decode cX8_priceOfUnit 19 = .ok (.fload_n 2, 1) := by decide +kernel
theorem dX8_priceOfUnit_20 : decode cX8_priceOfUnit 20 = .ok (.fconst 1, 1) := by decide +kernel
theorem dX8_priceOfUnit_21 : decode cX8_priceOfUnit 21 = .ok (.aload_n 0, 1) := by decide +kernel
theorem dX8_priceOfUnit_22 : decode cX8_priceOfUnit 22 = .ok (.getfield 35, 3) := by decide +kernel
theorem dX8_priceOfUnit_25 : decode cX8_priceOfUnit 25 = .ok (.getfield 94, 3) := by decide +kernel
theorem dX8_priceOfUnit_28 : decode cX8_priceOfUnit 28 = .ok (.aload_n 0, 1) := by decide +kernel
theorem dX8_priceOfUnit_29 : decode cX8_priceOfUnit 29 = .ok (.iload_n 1, 1) := by decide +kernel
theorem dX8_priceOfUnit_30 : decode cX8_priceOfUnit 30 = .ok (.invokevirtual 98, 3) := by decide +kernel
theorem dX8_priceOfUnit_33 : decode cX8_priceOfUnit 33 = .ok (.faload, 1) := by decide +kernel
theorem dX8_priceOfUnit_34 : decode cX8_priceOfUnit 34 = .ok (.ldc 102, 2) := by decide +kernel
theorem dX8_priceOfUnit_36 : decode cX8_priceOfUnit 36 = .ok (.fdiv, 1) := by decide +kernel
theorem dX8_priceOfUnit_37 : decode cX8_priceOfUnit 37 = .ok (.fsub, 1) := by decide +kernel
theorem dX8_priceOfUnit_38 : decode cX8_priceOfUnit 38 = .ok (.fmul, 1) := by decide +kernel
theorem dX8_priceOfUnit_39 : decode cX8_priceOfUnit 39 = .ok (.freturn, 1) := by decide +kernel
set_option maxRecDepth 20000 in
theorem ggX8_isOnShelfIn_X8_stageOf : GoodIn wsX8_isOnShelfIn wsX8_stageOf := goodIn_r _ [7, 8, 1, 9, 10, 11, 12, 13, 14, 15, 16, 17, 18, 19, 20, 21, 22, 23, 24, 25, 26, 27, 28, 29, 30, 31, 32, 33, 34, 35, 36, 37, 38, 39, 40, 41, 42] (by decide +kernel) (by decide +kernel)
set_option maxRecDepth 20000 in
theorem gX8_isOnShelfIn_X8_stageOf : GoodIn wsX8_isOnShelfIn (wsV RX8 98 RX8 yX8_stageOf wsX8_stageOf) := goodIn_app (goodIn_of _ (by decide +kernel)) ggX8_isOnShelfIn_X8_stageOf
theorem dX8_isOnShelfIn_0 : decode cX8_isOnShelfIn 0 = .ok (.aload_n 0, 1) := by decide +kernel
theorem dX8_isOnShelfIn_1 : decode cX8_isOnShelfIn 1 = .ok (.getfield 21, 3) := by decide +kernel
theorem dX8_isOnShelfIn_4 : decode cX8_isOnShelfIn 4 = .ok (.getfield 103, 3) := by decide +kernel
theorem dX8_isOnShelfIn_7 : decode cX8_isOnShelfIn 7 = .ok (.iload_n 1, 1) := by decide +kernel
theorem dX8_isOnShelfIn_8 : decode cX8_isOnShelfIn 8 = .ok (.iaload, 1) := by decide +kernel
theorem dX8_isOnShelfIn_9 : decode cX8_isOnShelfIn 9 = .ok (.ifCond .le 16, 3) := by decide +kernel
theorem dX8_isOnShelfIn_12 : decode cX8_isOnShelfIn 12 = .ok (.aload_n 0, 1) := by decide +kernel
theorem dX8_isOnShelfIn_13 : decode cX8_isOnShelfIn 13 = .ok (.iload_n 1, 1) := by decide +kernel
theorem dX8_isOnShelfIn_14 : decode cX8_isOnShelfIn 14 = .ok (.invokevirtual 98, 3) := by decide +kernel
theorem dX8_isOnShelfIn_17 : decode cX8_isOnShelfIn 17 = .ok (.iload_n 2, 1) := by decide +kernel
theorem dX8_isOnShelfIn_18 : decode cX8_isOnShelfIn 18 = .ok (.if_icmp .ne 7, 3) := by decide +kernel
theorem dX8_isOnShelfIn_21 : decode cX8_isOnShelfIn 21 = .ok (.iconst 1, 1) := by decide +kernel
theorem dX8_isOnShelfIn_22 : decode cX8_isOnShelfIn 22 = .ok (.goto 4, 3) := by decide +kernel
theorem dX8_isOnShelfIn_25 : decode cX8_isOnShelfIn 25 = .ok (.iconst 0, 1) := by decide +kernel
theorem dX8_isOnShelfIn_26 : decode cX8_isOnShelfIn 26 = .ok (.ireturn, 1) := by decide +kernel
set_option maxRecDepth 20000 in
theorem ggX8_batchesInStage_X8_isOnShelfIn : GoodIn wsX8_batchesInStage wsX8_isOnShelfIn := goodIn_r _ [7, 1, 8, 9, 10, 11, 6, 12, 13, 14, 15, 16, 17, 18, 19, 20, 21, 22, 23, 24, 25, 26, 27, 28, 29, 30, 31, 32, 33, 34, 35, 36, 37, 38, 39, 40, 41, 42, 43, 44, 45, 46, 47] (by decide +kernel) (by decide +kernel)
set_option maxRecDepth 20000 in
theorem gX8_batchesInStage_X8_isOnShelfIn : GoodIn wsX8_batchesInStage (wsV RX8 109 RX8 yX8_isOnShelfIn wsX8_isOnShelfIn) := goodIn_app (goodIn_of _ (by decide +kernel)) ggX8_batchesInStage_X8_isOnShelfIn
theorem dX8_batchesInStage_0 : decode cX8_batchesInStage 0 = .ok (.iconst 0, 1) := by decide +kernel
theorem dX8_batchesInStage_1 : decode cX8_batchesInStage 1 = .ok (.istore_n 2, 1) := by decide +kernel
theorem dX8_batchesInStage_2 : decode cX8_batchesInStage 2 = .ok (.iconst 0, 1) := by decide +kernel
theorem dX8_batchesInStage_3 : decode cX8_batchesInStage 3 = .ok (.istore_n 3, 1) := by decide +kernel
theorem dX8_batchesInStage_4 : decode cX8_batchesInStage 4 = .ok (.iload_n 3, 1) := by decide +kernel
theorem dX8_batchesInStage_5 : decode cX8_batchesInStage 5 = .ok (.aload_n 0, 1) := by decide +kernel
theorem dX8_batchesInStage_6 : decode cX8_batchesInStage 6 = .ok (.getfield 21, 3) := by decide +kernel
theorem dX8_batchesInStage_9 : decode cX8_batchesInStage 9 = .ok (.getfield 106, 3) := by decide +kernel
theorem dX8_batchesInStage_12 : decode cX8_batchesInStage 12 = .ok (.if_icmp .ge 21, 3) := by decide +kernel
theorem dX8_batchesInStage_15 : decode cX8_batchesInStage 15 = .ok (.aload_n 0, 1) := by decide +kernel
theorem dX8_batchesInStage_16 : decode cX8_batchesInStage 16 = .ok (.iload_n 3, 1) := by decide +kernel
theorem dX8_batchesInStage_17 : decode cX8_batchesInStage 17 = .ok (.iload_n 1, 1) := by decide +kernel
theorem dX8_batchesInStage_18 : decode cX8_batchesInStage 18 = .ok (.invokevirtual 109, 3) := by decide +kernel
theorem dX8_batchesInStage_21 : decode cX8_batchesInStage 21 = .ok (.ifCond .eq 6, 3) := by decide +kernel
theorem dX8_batchesInStage_24 : decode cX8_batchesInStage 24 = .ok (.iinc 2 1, 3) := by decide +kernel
theorem dX8_batchesInStage_27 : decode cX8_batchesInStage 27 = .ok (.iinc 3 1, 3) := by decide +kernel
theorem dX8_batchesInStage_30 : decode cX8_batchesInStage 30 = .ok (.goto (-26), 3) := by decide +kernel
theorem dX8_batchesInStage_33 : decode cX8_batchesInStage 33 = .ok (.iload_n 2, 1) := by decide +kernel
theorem dX8_batchesInStage_34 : decode cX8_batchesInStage 34 = .ok (.ireturn, 1) := by decide +kernel
set_option maxRecDepth 20000 in
theorem ggX8_unitsInStage_X8_isOnShelfIn : GoodIn wsX8_unitsInStage wsX8_isOnShelfIn := goodIn_r _ [8, 1, 3, 9, 10, 11, 7, 12, 13, 14, 15, 16, 17, 18, 19, 20, 21, 22, 23, 24, 25, 26, 27, 28, 29, 30, 31, 32, 33, 34, 35, 36, 37, 38, 39, 40, 41, 42, 43, 44, 45, 46, 47] (by decide +kernel) (by decide +kernel)
set_option maxRecDepth 20000 in
theorem gX8_unitsInStage_X8_isOnShelfIn : GoodIn wsX8_unitsInStage (wsV RX8 109 RX8 yX8_isOnShelfIn wsX8_isOnShelfIn) := goodIn_app (goodIn_of _ (by decide +kernel)) ggX8_unitsInStage_X8_isOnShelfIn
theorem dX8_unitsInStage_0 : decode cX8_unitsInStage 0 = .ok (.iconst 0, 1) := by decide +kernel
theorem dX8_unitsInStage_1 : decode cX8_unitsInStage 1 = .ok (.istore_n 2, 1) := by decide +kernel
theorem dX8_unitsInStage_2 : decode cX8_unitsInStage 2 = .ok (.iconst 0, 1) := by decide +kernel
theorem dX8_unitsInStage_3 : decode cX8_unitsInStage 3 = .ok (.istore_n 3, 1) := by decide +kernel
theorem dX8_unitsInStage_4 : decode cX8_unitsInStage 4 = .ok (.iload_n 3, 1) := by decide +kernel
theorem dX8_unitsInStage_5 : decode cX8_unitsInStage 5 = .ok (.aload_n 0, 1) := by decide +kernel
theorem dX8_unitsInStage_6 : decode cX8_unitsInStage 6 = .ok (.getfield 21, 3) := by decide +kernel
theorem dX8_unitsInStage_9 : decode cX8_unitsInStage 9 = .ok (.getfield 106, 3) := by decide +kernel
theorem dX8_unitsInStage_12 : decode cX8_unitsInStage 12 = .ok (.if_icmp .ge 30, 3) := by decide +kernel
theorem dX8_unitsInStage_15 : decode cX8_unitsInStage 15 = .ok (.aload_n 0, 1) := by decide +kernel
theorem dX8_unitsInStage_16 : decode cX8_unitsInStage 16 = .ok (.iload_n 3, 1) := by decide +kernel
theorem dX8_unitsInStage_17 : decode cX8_unitsInStage 17 = .ok (.iload_n 1, 1) := by decide +kernel
theorem dX8_unitsInStage_18 : decode cX8_unitsInStage 18 = .ok (.invokevirtual 109, 3) := by decide +kernel
theorem dX8_unitsInStage_21 : decode cX8_unitsInStage 21 = .ok (.ifCond .eq 15, 3) := by decide +kernel
theorem dX8_unitsInStage_24 : decode cX8_unitsInStage 24 = .ok (.iload_n 2, 1) := by decide +kernel
theorem dX8_unitsInStage_25 : decode cX8_unitsInStage 25 = .ok (.aload_n 0, 1) := by decide +kernel
theorem dX8_unitsInStage_26 : decode cX8_unitsInStage 26 = .ok (.getfield 21, 3) := by decide +kernel
theorem dX8_unitsInStage_29 : decode cX8_unitsInStage 29 = .ok (.getfield 103, 3) := by decide +kernel
theorem dX8_unitsInStage_32 : decode cX8_unitsInStage 32 = .ok (.iload_n 3, 1) := by decide +kernel
theorem dX8_unitsInStage_33 : decode cX8_unitsInStage 33 = .ok (.iaload, 1) := by decide +kernel
theorem dX8_unitsInStage_34 : decode cX8_unitsInStage 34 = .ok (.iadd, 1) := by decide +kernel
theorem dX8_unitsInStage_35 : decode cX8_unitsInStage 35 = .ok (.istore_n 2, 1) := by decide +kernel
theorem dX8_unitsInStage_36 : decode cX8_unitsInStage 36 = .ok (.iinc 3 1, 3) := by decide +kernel
theorem dX8_unitsInStage_39 : decode cX8_unitsInStage 39 = .ok (.goto (-35), 3) := by decide +kernel
theorem dX8_unitsInStage_42 : decode cX8_unitsInStage 42 = .ok (.iload_n 2, 1) := by decide +kernel
theorem dX8_unitsInStage_43 : decode cX8_unitsInStage 43 = .ok (.ireturn, 1) := by decide +kernel
set_option maxRecDepth 20000 in
theorem ggX8_receive_X0_append : GoodIn wsX8_receive wsX0_append := goodIn_r _ [8, 9, 10, 11, 12, 13, 37, 38, 39, 40, 41, 42, 43, 44, 45] (by decide +kernel) (by decide +kernel)
set_option maxRecDepth 20000 in
theorem gX8_receive_X0_append : GoodIn wsX8_receive (wsV RX8 113 RX0 yX0_append wsX0_append) := goodIn_app (goodIn_of _ (by decide +kernel)) ggX8_receive_X0_append
set_option maxRecDepth 20000 in
theorem ggX8_receive_X5_append : GoodIn wsX8_receive wsX5_append := goodIn_r _ [18, 19, 20, 21, 22, 23, 24, 25, 26, 27, 28, 46, 47, 48, 49, 50, 51] (by decide +kernel) (by decide +kernel)
set_option maxRecDepth 20000 in
theorem gX8_receive_X5_append : GoodIn wsX8_receive (wsV RX8 117 RX5 yX5_append wsX5_append) := goodIn_app (goodIn_of _ (by decide +kernel)) ggX8_receive_X5_append
theorem dX8_receive_0 : decode cX8_receive 0 = .ok (.aload_n 0, 1) := by decide +kernel
theorem dX8_receive_1 : decode cX8_receive 1 = .ok (.getfield 21, 3) := by decide +kernel
theorem dX8_receive_4 : decode cX8_receive 4 = .ok (.iload_n 1, 1) := by decide +kernel
theorem dX8_receive_5 : decode cX8_receive 5 = .ok (.iload_n 2, 1) := by decide +kernel
theorem dX8_receive_6 : decode cX8_receive 6 = .ok (.iload_n 3, 1) := by decide +kernel
theorem dX8_receive_7 : decode cX8_receive 7 = .ok (.invokevirtual 113, 3) := by decide +kernel
theorem dX8_receive_10 : decode cX8_receive 10 = .ok (.istore 4, 2) := by decide +kernel
theorem dX8_receive_12 : decode cX8_receive 12 = .ok (.aload_n 0, 1) := by decide +kernel
theorem dX8_receive_13 : decode cX8_receive 13 = .ok (.getfield 42, 3) := by decide +kernel
theorem dX8_receive_16 : decode cX8_receive 16 = .ok (.iconst 0, 1) := by decide +kernel
theorem dX8_receive_17 : decode cX8_receive 17 = .ok (.iload 4, 2) := by decide +kernel
theorem dX8_receive_19 : decode cX8_receive 19 = .ok (.iload_n 2, 1) := by decide +kernel
theorem dX8_receive_20 : decode cX8_receive 20 = .ok (.aload_n 0, 1) := by decide +kernel
theorem dX8_receive_21 : decode cX8_receive 21 = .ok (.getfield 74, 3) := by decide +kernel
theorem dX8_receive_24 : decode cX8_receive 24 = .ok (.invokevirtual 117, 3) := by decide +kernel
theorem dX8_receive_27 : decode cX8_receive 27 = .ok (.iload 4, 2) := by decide +kernel
theorem dX8_receive_29 : decode cX8_receive 29 = .ok (.ireturn, 1) := by decide +kernel
set_option maxRecDepth 20000 in
theorem ggX8_sell_X6_appendTake : GoodIn wsX8_sell wsX6_appendTake := goodIn_r _ [19, 20, 21, 22, 23, 24, 83, 84, 85, 86, 87, 88, 89, 90, 91, 92, 93, 94, 95, 96] (by decide +kernel) (by decide +kernel)
set_option maxRecDepth 20000 in
theorem gX8_sell_X6_appendTake : GoodIn wsX8_sell (wsV RX8 136 RX6 yX6_appendTake wsX6_appendTake) := goodIn_app (goodIn_of _ (by decide +kernel)) ggX8_sell_X6_appendTake
set_option maxRecDepth 20000 in
theorem ggX8_sell_X5_append : GoodIn wsX8_sell wsX5_append := goodIn_r _ [29, 30, 31, 32, 33, 34, 35, 36, 37, 38, 39, 97, 98, 99, 100, 101, 102] (by decide +kernel) (by decide +kernel)
set_option maxRecDepth 20000 in
theorem gX8_sell_X5_append : GoodIn wsX8_sell (wsV RX8 117 RX5 yX5_append wsX5_append) := goodIn_app (goodIn_of _ (by decide +kernel)) ggX8_sell_X5_append
set_option maxRecDepth 20000 in
theorem ggX8_sell_X2_due : GoodIn wsX8_sell wsX2_due := goodIn_r _ [44, 45, 46, 47, 55, 56, 57, 58, 59, 60, 61, 62, 63, 64, 65] (by decide +kernel) (by decide +kernel)
set_option maxRecDepth 20000 in
theorem gX8_sell_X2_due : GoodIn wsX8_sell (wsV RX8 146 RX2 yX2_due wsX2_due) := goodIn_app (goodIn_of _ (by decide +kernel)) ggX8_sell_X2_due
set_option maxRecDepth 20000 in
theorem ggX8_sell_X6_endLast : GoodIn wsX8_sell wsX6_endLast := goodIn_r _ [51, 20, 52, 53, 54, 83, 84, 85, 86, 87, 88, 89, 90, 91, 92, 93, 94, 95, 96] (by decide +kernel) (by decide +kernel)
set_option maxRecDepth 20000 in
theorem gX8_sell_X6_endLast : GoodIn wsX8_sell (wsV RX8 150 RX6 yX6_endLast wsX6_endLast) := goodIn_app (goodIn_of _ (by decide +kernel)) ggX8_sell_X6_endLast
theorem dX8_sell_0 : decode cX8_sell 0 = .ok (.iconst 0, 1) := by decide +kernel
theorem dX8_sell_1 : decode cX8_sell 1 = .ok (.istore_n 2, 1) := by decide +kernel
theorem dX8_sell_2 : decode cX8_sell 2 = .ok (.iload_n 2, 1) := by decide +kernel
theorem dX8_sell_3 : decode cX8_sell 3 = .ok (.aload_n 1, 1) := by decide +kernel
theorem dX8_sell_4 : decode cX8_sell 4 = .ok (.getfield 120, 3) := by decide +kernel
theorem dX8_sell_7 : decode cX8_sell 7 = .ok (.if_icmp .ge 95, 3) := by decide +kernel
theorem dX8_sell_10 : decode cX8_sell 10 = .ok (.aload_n 1, 1) := by decide +kernel
theorem dX8_sell_11 : decode cX8_sell 11 = .ok (.getfield 123, 3) := by decide +kernel
theorem dX8_sell_14 : decode cX8_sell 14 = .ok (.iload_n 2, 1) := by decide +kernel
theorem dX8_sell_15 : decode cX8_sell 15 = .ok (.iaload, 1) := by decide +kernel
theorem dX8_sell_16 : decode cX8_sell 16 = .ok (.istore_n 3, 1) := by decide +kernel
theorem dX8_sell_17 : decode cX8_sell 17 = .ok (.aload_n 1, 1) := by decide +kernel
theorem dX8_sell_18 : decode cX8_sell 18 = .ok (.getfield 126, 3) := by decide +kernel
theorem dX8_sell_21 : decode cX8_sell 21 = .ok (.iload_n 2, 1) := by decide +kernel
theorem dX8_sell_22 : decode cX8_sell 22 = .ok (.iaload, 1) := by decide +kernel
theorem dX8_sell_23 : decode cX8_sell 23 = .ok (.istore 4, 2) := by decide +kernel
theorem dX8_sell_25 : decode cX8_sell 25 = .ok (.aload_n 0, 1) := by decide +kernel
theorem dX8_sell_26 : decode cX8_sell 26 = .ok (.getfield 21, 3) := by decide +kernel
theorem dX8_sell_29 : decode cX8_sell 29 = .ok (.getfield 103, 3) := by decide +kernel
theorem dX8_sell_32 : decode cX8_sell 32 = .ok (.iload_n 3, 1) := by decide +kernel
theorem dX8_sell_33 : decode cX8_sell 33 = .ok (.dup2, 1) := by decide +kernel
theorem dX8_sell_34 : decode cX8_sell 34 = .ok (.iaload, 1) := by decide +kernel
theorem dX8_sell_35 : decode cX8_sell 35 = .ok (.iload 4, 2) := by decide +kernel
theorem dX8_sell_37 : decode cX8_sell 37 = .ok (.isub, 1) := by decide +kernel
theorem dX8_sell_38 : decode cX8_sell 38 = .ok (.iastore, 1) := by decide +kernel
theorem dX8_sell_39 : decode cX8_sell 39 = .ok (.aload_n 0, 1) := by decide +kernel
theorem dX8_sell_40 : decode cX8_sell 40 = .ok (.getfield 21, 3) := by decide +kernel
theorem dX8_sell_43 : decode cX8_sell 43 = .ok (.getfield 129, 3) := by decide +kernel
theorem dX8_sell_46 : decode cX8_sell 46 = .ok (.iload_n 3, 1) := by decide +kernel
theorem dX8_sell_47 : decode cX8_sell 47 = .ok (.dup2, 1) := by decide +kernel
theorem dX8_sell_48 : decode cX8_sell 48 = .ok (.iaload, 1) := by decide +kernel
theorem dX8_sell_49 : decode cX8_sell 49 = .ok (.iload 4, 2) := by decide +kernel
theorem dX8_sell_51 : decode cX8_sell 51 = .ok (.iadd, 1) := by decide +kernel
theorem dX8_sell_52 : decode cX8_sell 52 = .ok (.iastore, 1) := by decide +kernel
theorem dX8_sell_53 : decode cX8_sell 53 = .ok (.aload_n 0, 1) := by decide +kernel
theorem dX8_sell_54 : decode cX8_sell 54 = .ok (.getfield 21, 3) := by decide +kernel
theorem dX8_sell_57 : decode cX8_sell 57 = .ok (.getfield 132, 3) := by decide +kernel
theorem dX8_sell_60 : decode cX8_sell 60 = .ok (.iload_n 3, 1) := by decide +kernel
theorem dX8_sell_61 : decode cX8_sell 61 = .ok (.dup2, 1) := by decide +kernel
theorem dX8_sell_62 : decode cX8_sell 62 = .ok (.iaload, 1) := by decide +kernel
theorem dX8_sell_63 : decode cX8_sell 63 = .ok (.aload_n 1, 1) := by decide +kernel
theorem dX8_sell_64 : decode cX8_sell 64 = .ok (.getfield 135, 3) := by decide +kernel
theorem dX8_sell_67 : decode cX8_sell 67 = .ok (.iload_n 2, 1) := by decide +kernel
theorem dX8_sell_68 : decode cX8_sell 68 = .ok (.iaload, 1) := by decide +kernel
theorem dX8_sell_69 : decode cX8_sell 69 = .ok (.iadd, 1) := by decide +kernel
theorem dX8_sell_70 : decode cX8_sell 70 = .ok (.iastore, 1) := by decide +kernel
theorem dX8_sell_71 : decode cX8_sell 71 = .ok (.aload_n 0, 1) := by decide +kernel
theorem dX8_sell_72 : decode cX8_sell 72 = .ok (.getfield 28, 3) := by decide +kernel
theorem dX8_sell_75 : decode cX8_sell 75 = .ok (.iload_n 3, 1) := by decide +kernel
theorem dX8_sell_76 : decode cX8_sell 76 = .ok (.iload 4, 2) := by decide +kernel
theorem dX8_sell_78 : decode cX8_sell 78 = .ok (.invokevirtual 136, 3) := by decide +kernel
theorem dX8_sell_81 : decode cX8_sell 81 = .ok (.aload_n 0, 1) := by decide +kernel
theorem dX8_sell_82 : decode cX8_sell 82 = .ok (.getfield 42, 3) := by decide +kernel
theorem dX8_sell_85 : decode cX8_sell 85 = .ok (.iconst 1, 1) := by decide +kernel
theorem dX8_sell_86 : decode cX8_sell 86 = .ok (.iload_n 3, 1) := by decide +kernel
theorem dX8_sell_87 : decode cX8_sell 87 = .ok (.iload 4, 2) := by decide +kernel
theorem dX8_sell_89 : decode cX8_sell 89 = .ok (.aload_n 0, 1) := by decide +kernel
theorem dX8_sell_90 : decode cX8_sell 90 = .ok (.getfield 74, 3) := by decide +kernel
theorem dX8_sell_93 : decode cX8_sell 93 = .ok (.invokevirtual 117, 3) := by decide +kernel
theorem dX8_sell_96 : decode cX8_sell 96 = .ok (.iinc 2 1, 3) := by decide +kernel
theorem dX8_sell_99 : decode cX8_sell 99 = .ok (.goto (-97), 3) := by decide +kernel
theorem dX8_sell_102 : decode cX8_sell 102 = .ok (.aload_n 0, 1) := by decide +kernel
theorem dX8_sell_103 : decode cX8_sell 103 = .ok (.getfield 28, 3) := by decide +kernel
theorem dX8_sell_106 : decode cX8_sell 106 = .ok (.aload_n 1, 1) := by decide +kernel
theorem dX8_sell_107 : decode cX8_sell 107 = .ok (.getfield 140, 3) := by decide +kernel
theorem dX8_sell_110 : decode cX8_sell 110 = .ok (.aload_n 1, 1) := by decide +kernel
theorem dX8_sell_111 : decode cX8_sell 111 = .ok (.getfield 143, 3) := by decide +kernel
theorem dX8_sell_114 : decode cX8_sell 114 = .ok (.aload_n 1, 1) := by decide +kernel
theorem dX8_sell_115 : decode cX8_sell 115 = .ok (.aload_n 0, 1) := by decide +kernel
theorem dX8_sell_116 : decode cX8_sell 116 = .ok (.getfield 70, 3) := by decide +kernel
theorem dX8_sell_119 : decode cX8_sell 119 = .ok (.invokevirtual 146, 3) := by decide +kernel
theorem dX8_sell_122 : decode cX8_sell 122 = .ok (.invokevirtual 150, 3) := by decide +kernel
theorem dX8_sell_125 : decode cX8_sell 125 = .ok (.return_, 1) := by decide +kernel
set_option maxRecDepth 20000 in
theorem ggX8_give_X5_append : GoodIn wsX8_give wsX5_append := goodIn_r _ [10, 11, 12, 13, 14, 15, 16, 17, 18, 19, 20, 38, 39, 40, 41, 42, 43] (by decide +kernel) (by decide +kernel)
set_option maxRecDepth 20000 in
theorem gX8_give_X5_append : GoodIn wsX8_give (wsV RX8 117 RX5 yX5_append wsX5_append) := goodIn_app (goodIn_of _ (by decide +kernel)) ggX8_give_X5_append
theorem dX8_give_0 : decode cX8_give 0 = .ok (.aload_n 0, 1) := by decide +kernel
theorem dX8_give_1 : decode cX8_give 1 = .ok (.getfield 21, 3) := by decide +kernel
theorem dX8_give_4 : decode cX8_give 4 = .ok (.getfield 103, 3) := by decide +kernel
theorem dX8_give_7 : decode cX8_give 7 = .ok (.iload_n 1, 1) := by decide +kernel
theorem dX8_give_8 : decode cX8_give 8 = .ok (.dup2, 1) := by decide +kernel
theorem dX8_give_9 : decode cX8_give 9 = .ok (.iaload, 1) := by decide +kernel
theorem dX8_give_10 : decode cX8_give 10 = .ok (.iload_n 2, 1) := by decide +kernel
theorem dX8_give_11 : decode cX8_give 11 = .ok (.isub, 1) := by decide +kernel
theorem dX8_give_12 : decode cX8_give 12 = .ok (.iastore, 1) := by decide +kernel
theorem dX8_give_13 : decode cX8_give 13 = .ok (.aload_n 0, 1) := by decide +kernel
theorem dX8_give_14 : decode cX8_give 14 = .ok (.getfield 21, 3) := by decide +kernel
theorem dX8_give_17 : decode cX8_give 17 = .ok (.getfield 154, 3) := by decide +kernel
theorem dX8_give_20 : decode cX8_give 20 = .ok (.iload_n 1, 1) := by decide +kernel
theorem dX8_give_21 : decode cX8_give 21 = .ok (.dup2, 1) := by decide +kernel
theorem dX8_give_22 : decode cX8_give 22 = .ok (.iaload, 1) := by decide +kernel
theorem dX8_give_23 : decode cX8_give 23 = .ok (.iload_n 2, 1) := by decide +kernel
theorem dX8_give_24 : decode cX8_give 24 = .ok (.iadd, 1) := by decide +kernel
theorem dX8_give_25 : decode cX8_give 25 = .ok (.iastore, 1) := by decide +kernel
theorem dX8_give_26 : decode cX8_give 26 = .ok (.aload_n 0, 1) := by decide +kernel
theorem dX8_give_27 : decode cX8_give 27 = .ok (.getfield 42, 3) := by decide +kernel
theorem dX8_give_30 : decode cX8_give 30 = .ok (.iconst 2, 1) := by decide +kernel
theorem dX8_give_31 : decode cX8_give 31 = .ok (.iload_n 1, 1) := by decide +kernel
theorem dX8_give_32 : decode cX8_give 32 = .ok (.iload_n 2, 1) := by decide +kernel
theorem dX8_give_33 : decode cX8_give 33 = .ok (.aload_n 0, 1) := by decide +kernel
theorem dX8_give_34 : decode cX8_give 34 = .ok (.getfield 74, 3) := by decide +kernel
theorem dX8_give_37 : decode cX8_give 37 = .ok (.invokevirtual 117, 3) := by decide +kernel
theorem dX8_give_40 : decode cX8_give 40 = .ok (.return_, 1) := by decide +kernel
set_option maxRecDepth 20000 in
theorem ggX8_waste_X5_append : GoodIn wsX8_waste wsX5_append := goodIn_r _ [10, 11, 12, 13, 14, 15, 16, 17, 18, 19, 20, 38, 39, 40, 41, 42, 43] (by decide +kernel) (by decide +kernel)
set_option maxRecDepth 20000 in
theorem gX8_waste_X5_append : GoodIn wsX8_waste (wsV RX8 117 RX5 yX5_append wsX5_append) := goodIn_app (goodIn_of _ (by decide +kernel)) ggX8_waste_X5_append
theorem dX8_waste_0 : decode cX8_waste 0 = .ok (.aload_n 0, 1) := by decide +kernel
theorem dX8_waste_1 : decode cX8_waste 1 = .ok (.getfield 21, 3) := by decide +kernel
theorem dX8_waste_4 : decode cX8_waste 4 = .ok (.getfield 103, 3) := by decide +kernel
theorem dX8_waste_7 : decode cX8_waste 7 = .ok (.iload_n 1, 1) := by decide +kernel
theorem dX8_waste_8 : decode cX8_waste 8 = .ok (.dup2, 1) := by decide +kernel
theorem dX8_waste_9 : decode cX8_waste 9 = .ok (.iaload, 1) := by decide +kernel
theorem dX8_waste_10 : decode cX8_waste 10 = .ok (.iload_n 2, 1) := by decide +kernel
theorem dX8_waste_11 : decode cX8_waste 11 = .ok (.isub, 1) := by decide +kernel
theorem dX8_waste_12 : decode cX8_waste 12 = .ok (.iastore, 1) := by decide +kernel
theorem dX8_waste_13 : decode cX8_waste 13 = .ok (.aload_n 0, 1) := by decide +kernel
theorem dX8_waste_14 : decode cX8_waste 14 = .ok (.getfield 21, 3) := by decide +kernel
theorem dX8_waste_17 : decode cX8_waste 17 = .ok (.getfield 157, 3) := by decide +kernel
theorem dX8_waste_20 : decode cX8_waste 20 = .ok (.iload_n 3, 1) := by decide +kernel
theorem dX8_waste_21 : decode cX8_waste 21 = .ok (.aaload, 1) := by decide +kernel
theorem dX8_waste_22 : decode cX8_waste 22 = .ok (.iload_n 1, 1) := by decide +kernel
theorem dX8_waste_23 : decode cX8_waste 23 = .ok (.dup2, 1) := by decide +kernel
theorem dX8_waste_24 : decode cX8_waste 24 = .ok (.iaload, 1) := by decide +kernel
theorem dX8_waste_25 : decode cX8_waste 25 = .ok (.iload_n 2, 1) := by decide +kernel
theorem dX8_waste_26 : decode cX8_waste 26 = .ok (.iadd, 1) := by decide +kernel
theorem dX8_waste_27 : decode cX8_waste 27 = .ok (.iastore, 1) := by decide +kernel
theorem dX8_waste_28 : decode cX8_waste 28 = .ok (.aload_n 0, 1) := by decide +kernel
theorem dX8_waste_29 : decode cX8_waste 29 = .ok (.getfield 42, 3) := by decide +kernel
theorem dX8_waste_32 : decode cX8_waste 32 = .ok (.iconst 3, 1) := by decide +kernel
theorem dX8_waste_33 : decode cX8_waste 33 = .ok (.iload_n 1, 1) := by decide +kernel
theorem dX8_waste_34 : decode cX8_waste 34 = .ok (.iload_n 2, 1) := by decide +kernel
theorem dX8_waste_35 : decode cX8_waste 35 = .ok (.aload_n 0, 1) := by decide +kernel
theorem dX8_waste_36 : decode cX8_waste 36 = .ok (.getfield 74, 3) := by decide +kernel
theorem dX8_waste_39 : decode cX8_waste 39 = .ok (.invokevirtual 117, 3) := by decide +kernel
theorem dX8_waste_42 : decode cX8_waste 42 = .ok (.return_, 1) := by decide +kernel
set_option maxRecDepth 20000 in
theorem ggX8_wasteGood_X8_waste : GoodIn wsX8_wasteGood wsX8_waste := goodIn_r _ [9, 1, 4, 10, 11, 12, 13, 14, 15, 16, 17, 18, 19, 20, 21, 22, 23, 24, 25, 26, 27, 28, 29, 30, 31, 32, 33, 34, 35, 36, 37, 38, 39, 40, 41, 42, 43, 44, 45, 46, 47, 48, 49, 50] (by decide +kernel) (by decide +kernel)
set_option maxRecDepth 20000 in
theorem gX8_wasteGood_X8_waste : GoodIn wsX8_wasteGood (wsV RX8 161 RX8 yX8_waste wsX8_waste) := goodIn_app (goodIn_of _ (by decide +kernel)) ggX8_wasteGood_X8_waste
theorem dX8_wasteGood_0 : decode cX8_wasteGood 0 = .ok (.iconst 0, 1) := by decide +kernel
theorem dX8_wasteGood_1 : decode cX8_wasteGood 1 = .ok (.istore_n 2, 1) := by decide +kernel
theorem dX8_wasteGood_2 : decode cX8_wasteGood 2 = .ok (.iload_n 2, 1) := by decide +kernel
theorem dX8_wasteGood_3 : decode cX8_wasteGood 3 = .ok (.aload_n 0, 1) := by decide +kernel
theorem dX8_wasteGood_4 : decode cX8_wasteGood 4 = .ok (.getfield 21, 3) := by decide +kernel
theorem dX8_wasteGood_7 : decode cX8_wasteGood 7 = .ok (.getfield 106, 3) := by decide +kernel
theorem dX8_wasteGood_10 : decode cX8_wasteGood 10 = .ok (.if_icmp .ge 49, 3) := by decide +kernel
theorem dX8_wasteGood_13 : decode cX8_wasteGood 13 = .ok (.aload_n 0, 1) := by decide +kernel
theorem dX8_wasteGood_14 : decode cX8_wasteGood 14 = .ok (.getfield 21, 3) := by decide +kernel
theorem dX8_wasteGood_17 : decode cX8_wasteGood 17 = .ok (.getfield 84, 3) := by decide +kernel
theorem dX8_wasteGood_20 : decode cX8_wasteGood 20 = .ok (.iload_n 2, 1) := by decide +kernel
theorem dX8_wasteGood_21 : decode cX8_wasteGood 21 = .ok (.iaload, 1) := by decide +kernel
theorem dX8_wasteGood_22 : decode cX8_wasteGood 22 = .ok (.iload_n 1, 1) := by decide +kernel
theorem dX8_wasteGood_23 : decode cX8_wasteGood 23 = .ok (.if_icmp .ne 30, 3) := by decide +kernel
theorem dX8_wasteGood_26 : decode cX8_wasteGood 26 = .ok (.aload_n 0, 1) := by decide +kernel
theorem dX8_wasteGood_27 : decode cX8_wasteGood 27 = .ok (.getfield 21, 3) := by decide +kernel
theorem dX8_wasteGood_30 : decode cX8_wasteGood 30 = .ok (.getfield 103, 3) := by decide +kernel
theorem dX8_wasteGood_33 : decode cX8_wasteGood 33 = .ok (.iload_n 2, 1) := by decide +kernel
theorem dX8_wasteGood_34 : decode cX8_wasteGood 34 = .ok (.iaload, 1) := by decide +kernel
theorem dX8_wasteGood_35 : decode cX8_wasteGood 35 = .ok (.ifCond .le 18, 3) := by decide +kernel
theorem dX8_wasteGood_38 : decode cX8_wasteGood 38 = .ok (.aload_n 0, 1) := by decide +kernel
theorem dX8_wasteGood_39 : decode cX8_wasteGood 39 = .ok (.iload_n 2, 1) := by decide +kernel
theorem dX8_wasteGood_40 : decode cX8_wasteGood 40 = .ok (.aload_n 0, 1) := by decide +kernel
theorem dX8_wasteGood_41 : decode cX8_wasteGood 41 = .ok (.getfield 21, 3) := by decide +kernel
theorem dX8_wasteGood_44 : decode cX8_wasteGood 44 = .ok (.getfield 103, 3) := by decide +kernel
theorem dX8_wasteGood_47 : decode cX8_wasteGood 47 = .ok (.iload_n 2, 1) := by decide +kernel
theorem dX8_wasteGood_48 : decode cX8_wasteGood 48 = .ok (.iaload, 1) := by decide +kernel
theorem dX8_wasteGood_49 : decode cX8_wasteGood 49 = .ok (.iconst 2, 1) := by decide +kernel
theorem dX8_wasteGood_50 : decode cX8_wasteGood 50 = .ok (.invokevirtual 161, 3) := by decide +kernel
theorem dX8_wasteGood_53 : decode cX8_wasteGood 53 = .ok (.iinc 2 1, 3) := by decide +kernel
theorem dX8_wasteGood_56 : decode cX8_wasteGood 56 = .ok (.goto (-54), 3) := by decide +kernel
theorem dX8_wasteGood_59 : decode cX8_wasteGood 59 = .ok (.return_, 1) := by decide +kernel
set_option maxRecDepth 20000 in
theorem ggX8_passDays_X0_age : GoodIn wsX8_passDays wsX0_age := goodIn_r _ [7, 8, 9, 10, 73, 74, 75, 76, 77, 78, 79, 80, 81] (by decide +kernel) (by decide +kernel)
set_option maxRecDepth 20000 in
theorem gX8_passDays_X0_age : GoodIn wsX8_passDays (wsV RX8 164 RX0 yX0_age wsX0_age) := goodIn_app (goodIn_of _ (by decide +kernel)) ggX8_passDays_X0_age
set_option maxRecDepth 20000 in
theorem ggX8_passDays_X8_expire : GoodIn wsX8_passDays wsX8_expire := goodIn_r _ [15, 2, 16, 17, 18, 19, 20, 21, 14, 22, 23, 24, 1, 25, 26, 27, 28, 29, 30, 31, 32, 33, 34, 35, 36, 37, 38, 39, 65, 66, 67, 68, 69, 70, 71, 72, 73, 74, 75, 76, 77, 78, 79, 80, 81, 82, 83, 84, 85, 86, 87] (by decide +kernel) (by decide +kernel)
set_option maxRecDepth 20000 in
theorem gX8_passDays_X8_expire : GoodIn wsX8_passDays (wsV RX8 167 RX8 yX8_expire wsX8_expire) := goodIn_app (goodIn_of _ (by decide +kernel)) ggX8_passDays_X8_expire
set_option maxRecDepth 20000 in
theorem ggX8_passDays_X8_donate : GoodIn wsX8_passDays wsX8_donate := goodIn_r _ [43, 44, 2, 16, 17, 45, 37, 38, 39, 46, 47, 48, 14, 49, 50, 18, 51, 52, 53, 54, 55, 56, 57, 58, 59, 60, 61, 62, 63, 64, 24, 1, 25, 26, 27, 28, 29, 30, 31, 32, 33, 34, 35, 36, 65, 66, 67, 68, 69, 70, 71, 72, 73, 74, 75, 76, 77, 78, 79, 80, 81, 88, 89, 90, 91, 92, 93, 94, 82, 83, 84, 85, 86, 87] (by decide +kernel) (by decide +kernel)
set_option maxRecDepth 20000 in
theorem gX8_passDays_X8_donate : GoodIn wsX8_passDays (wsV RX8 171 RX8 yX8_donate wsX8_donate) := goodIn_app (goodIn_of _ (by decide +kernel)) ggX8_passDays_X8_donate
theorem dX8_passDays_0 : decode cX8_passDays 0 = .ok (.iconst 0, 1) := by decide +kernel
theorem dX8_passDays_1 : decode cX8_passDays 1 = .ok (.istore_n 2, 1) := by decide +kernel
theorem dX8_passDays_2 : decode cX8_passDays 2 = .ok (.iconst 0, 1) := by decide +kernel
theorem dX8_passDays_3 : decode cX8_passDays 3 = .ok (.istore_n 3, 1) := by decide +kernel
theorem dX8_passDays_4 : decode cX8_passDays 4 = .ok (.iload_n 3, 1) := by decide +kernel
theorem dX8_passDays_5 : decode cX8_passDays 5 = .ok (.iload_n 1, 1) := by decide +kernel
theorem dX8_passDays_6 : decode cX8_passDays 6 = .ok (.if_icmp .ge 37, 3) := by decide +kernel
theorem dX8_passDays_9 : decode cX8_passDays 9 = .ok (.aload_n 0, 1) := by decide +kernel
theorem dX8_passDays_10 : decode cX8_passDays 10 = .ok (.dup, 1) := by decide +kernel
theorem dX8_passDays_11 : decode cX8_passDays 11 = .ok (.getfield 74, 3) := by decide +kernel
theorem dX8_passDays_14 : decode cX8_passDays 14 = .ok (.iconst 1, 1) := by decide +kernel
theorem dX8_passDays_15 : decode cX8_passDays 15 = .ok (.iadd, 1) := by decide +kernel
theorem dX8_passDays_16 : decode cX8_passDays 16 = .ok (.putfield 74, 3) := by decide +kernel
theorem dX8_passDays_19 : decode cX8_passDays 19 = .ok (.aload_n 0, 1) := by decide +kernel
theorem dX8_passDays_20 : decode cX8_passDays 20 = .ok (.getfield 21, 3) := by decide +kernel
theorem dX8_passDays_23 : decode cX8_passDays 23 = .ok (.invokevirtual 164, 3) := by decide +kernel
theorem dX8_passDays_26 : decode cX8_passDays 26 = .ok (.iload_n 2, 1) := by decide +kernel
theorem dX8_passDays_27 : decode cX8_passDays 27 = .ok (.aload_n 0, 1) := by decide +kernel
theorem dX8_passDays_28 : decode cX8_passDays 28 = .ok (.invokevirtual 167, 3) := by decide +kernel
theorem dX8_passDays_31 : decode cX8_passDays 31 = .ok (.iadd, 1) := by decide +kernel
theorem dX8_passDays_32 : decode cX8_passDays 32 = .ok (.istore_n 2, 1) := by decide +kernel
theorem dX8_passDays_33 : decode cX8_passDays 33 = .ok (.aload_n 0, 1) := by decide +kernel
theorem dX8_passDays_34 : decode cX8_passDays 34 = .ok (.invokevirtual 171, 3) := by decide +kernel
theorem dX8_passDays_37 : decode cX8_passDays 37 = .ok (.iinc 3 1, 3) := by decide +kernel
theorem dX8_passDays_40 : decode cX8_passDays 40 = .ok (.goto (-36), 3) := by decide +kernel
theorem dX8_passDays_43 : decode cX8_passDays 43 = .ok (.iload_n 2, 1) := by decide +kernel
theorem dX8_passDays_44 : decode cX8_passDays 44 = .ok (.ireturn, 1) := by decide +kernel
set_option maxRecDepth 20000 in
theorem ggX8_expire_X8_waste : GoodIn wsX8_expire wsX8_waste := goodIn_r _ [9, 1, 3, 10, 11, 12, 13, 14, 15, 16, 17, 18, 19, 20, 21, 22, 23, 24, 25, 26, 27, 28, 29, 30, 31, 32, 33, 34, 35, 36, 37, 38, 39, 40, 41, 42, 43, 44, 45, 46, 47, 48, 49, 50] (by decide +kernel) (by decide +kernel)
set_option maxRecDepth 20000 in
theorem gX8_expire_X8_waste : GoodIn wsX8_expire (wsV RX8 161 RX8 yX8_waste wsX8_waste) := goodIn_app (goodIn_of _ (by decide +kernel)) ggX8_expire_X8_waste
theorem dX8_expire_0 : decode cX8_expire 0 = .ok (.iconst 0, 1) := by decide +kernel
theorem dX8_expire_1 : decode cX8_expire 1 = .ok (.istore_n 1, 1) := by decide +kernel
theorem dX8_expire_2 : decode cX8_expire 2 = .ok (.iconst 0, 1) := by decide +kernel
theorem dX8_expire_3 : decode cX8_expire 3 = .ok (.istore_n 2, 1) := by decide +kernel
theorem dX8_expire_4 : decode cX8_expire 4 = .ok (.iload_n 2, 1) := by decide +kernel
theorem dX8_expire_5 : decode cX8_expire 5 = .ok (.aload_n 0, 1) := by decide +kernel
theorem dX8_expire_6 : decode cX8_expire 6 = .ok (.getfield 21, 3) := by decide +kernel
theorem dX8_expire_9 : decode cX8_expire 9 = .ok (.getfield 106, 3) := by decide +kernel
theorem dX8_expire_12 : decode cX8_expire 12 = .ok (.if_icmp .ge 46, 3) := by decide +kernel
theorem dX8_expire_15 : decode cX8_expire 15 = .ok (.aload_n 0, 1) := by decide +kernel
theorem dX8_expire_16 : decode cX8_expire 16 = .ok (.getfield 21, 3) := by decide +kernel
theorem dX8_expire_19 : decode cX8_expire 19 = .ok (.getfield 103, 3) := by decide +kernel
theorem dX8_expire_22 : decode cX8_expire 22 = .ok (.iload_n 2, 1) := by decide +kernel
theorem dX8_expire_23 : decode cX8_expire 23 = .ok (.iaload, 1) := by decide +kernel
theorem dX8_expire_24 : decode cX8_expire 24 = .ok (.istore_n 3, 1) := by decide +kernel
theorem dX8_expire_25 : decode cX8_expire 25 = .ok (.iload_n 3, 1) := by decide +kernel
theorem dX8_expire_26 : decode cX8_expire 26 = .ok (.ifCond .le 26, 3) := by decide +kernel
theorem dX8_expire_29 : decode cX8_expire 29 = .ok (.aload_n 0, 1) := by decide +kernel
theorem dX8_expire_30 : decode cX8_expire 30 = .ok (.getfield 21, 3) := by decide +kernel
theorem dX8_expire_33 : decode cX8_expire 33 = .ok (.getfield 78, 3) := by decide +kernel
theorem dX8_expire_36 : decode cX8_expire 36 = .ok (.iload_n 2, 1) := by decide +kernel
theorem dX8_expire_37 : decode cX8_expire 37 = .ok (.iaload, 1) := by decide +kernel
theorem dX8_expire_38 : decode cX8_expire 38 = .ok (.ifCond .gt 14, 3) := by decide +kernel
theorem dX8_expire_41 : decode cX8_expire 41 = .ok (.aload_n 0, 1) := by decide +kernel
theorem dX8_expire_42 : decode cX8_expire 42 = .ok (.iload_n 2, 1) := by decide +kernel
theorem dX8_expire_43 : decode cX8_expire 43 = .ok (.iload_n 3, 1) := by decide +kernel
theorem dX8_expire_44 : decode cX8_expire 44 = .ok (.iconst 0, 1) := by decide +kernel
theorem dX8_expire_45 : decode cX8_expire 45 = .ok (.invokevirtual 161, 3) := by decide +kernel
theorem dX8_expire_48 : decode cX8_expire 48 = .ok (.iload_n 1, 1) := by decide +kernel
theorem dX8_expire_49 : decode cX8_expire 49 = .ok (.iload_n 3, 1) := by decide +kernel
theorem dX8_expire_50 : decode cX8_expire 50 = .ok (.iadd, 1) := by decide +kernel
theorem dX8_expire_51 : decode cX8_expire 51 = .ok (.istore_n 1, 1) := by decide +kernel
theorem dX8_expire_52 : decode cX8_expire 52 = .ok (.iinc 2 1, 3) := by decide +kernel
theorem dX8_expire_55 : decode cX8_expire 55 = .ok (.goto (-51), 3) := by decide +kernel
theorem dX8_expire_58 : decode cX8_expire 58 = .ok (.iload_n 1, 1) := by decide +kernel
theorem dX8_expire_59 : decode cX8_expire 59 = .ok (.ireturn, 1) := by decide +kernel
set_option maxRecDepth 20000 in
theorem ggX8_donate_X8_stageOf : GoodIn wsX8_donate wsX8_stageOf := goodIn_r _ [13, 14, 2, 15, 16, 17, 18, 19, 20, 21, 22, 23, 24, 44, 45, 46, 47, 48, 49, 50, 51, 52, 53, 54, 55, 56, 57, 58, 59, 60, 61, 62, 63, 64, 65, 66, 67] (by decide +kernel) (by decide +kernel)
set_option maxRecDepth 20000 in
theorem gX8_donate_X8_stageOf : GoodIn wsX8_donate (wsV RX8 98 RX8 yX8_stageOf wsX8_stageOf) := goodIn_app (goodIn_of _ (by decide +kernel)) ggX8_donate_X8_stageOf
set_option maxRecDepth 20000 in
theorem ggX8_donate_X8_give : GoodIn wsX8_donate wsX8_give := goodIn_r _ [28, 2, 4, 29, 30, 31, 32, 33, 34, 35, 36, 37, 38, 39, 40, 41, 42, 43, 6, 7, 8, 44, 45, 46, 47, 48, 49, 50, 51, 52, 53, 54, 55, 56, 57, 58, 59, 60, 68, 69, 70, 71, 72, 73] (by decide +kernel) (by decide +kernel)
set_option maxRecDepth 20000 in
theorem gX8_donate_X8_give : GoodIn wsX8_donate (wsV RX8 179 RX8 yX8_give wsX8_give) := goodIn_app (goodIn_of _ (by decide +kernel)) ggX8_donate_X8_give
theorem dX8_donate_0 : decode cX8_donate 0 = .ok (.aload_n 0, 1) := by decide +kernel
theorem dX8_donate_1 : decode cX8_donate 1 = .ok (.getfield 46, 3) := by decide +kernel
theorem dX8_donate_4 : decode cX8_donate 4 = .ok (.iconst 2, 1) := by decide +kernel
theorem dX8_donate_5 : decode cX8_donate 5 = .ok (.iaload, 1) := by decide +kernel
theorem dX8_donate_6 : decode cX8_donate 6 = .ok (.istore_n 1, 1) := by decide +kernel
theorem dX8_donate_7 : decode cX8_donate 7 = .ok (.iconst 0, 1) := by decide +kernel
theorem dX8_donate_8 : decode cX8_donate 8 = .ok (.istore_n 2, 1) := by decide +kernel
theorem dX8_donate_9 : decode cX8_donate 9 = .ok (.iload_n 2, 1) := by decide +kernel
theorem dX8_donate_10 : decode cX8_donate 10 = .ok (.aload_n 0, 1) := by decide +kernel
theorem dX8_donate_11 : decode cX8_donate 11 = .ok (.getfield 21, 3) := by decide +kernel
theorem dX8_donate_14 : decode cX8_donate 14 = .ok (.getfield 106, 3) := by decide +kernel
theorem dX8_donate_17 : decode cX8_donate 17 = .ok (.if_icmp .ge 63, 3) := by decide +kernel
theorem dX8_donate_20 : decode cX8_donate 20 = .ok (.iload_n 1, 1) := by decide +kernel
theorem dX8_donate_21 : decode cX8_donate 21 = .ok (.ifCond .le 59, 3) := by decide +kernel
theorem dX8_donate_24 : decode cX8_donate 24 = .ok (.aload_n 0, 1) := by decide +kernel
theorem dX8_donate_25 : decode cX8_donate 25 = .ok (.getfield 21, 3) := by decide +kernel
theorem dX8_donate_28 : decode cX8_donate 28 = .ok (.getfield 103, 3) := by decide +kernel
theorem dX8_donate_31 : decode cX8_donate 31 = .ok (.iload_n 2, 1) := by decide +kernel
theorem dX8_donate_32 : decode cX8_donate 32 = .ok (.iaload, 1) := by decide +kernel
theorem dX8_donate_33 : decode cX8_donate 33 = .ok (.ifCond .le 41, 3) := by decide +kernel
theorem dX8_donate_36 : decode cX8_donate 36 = .ok (.aload_n 0, 1) := by decide +kernel
theorem dX8_donate_37 : decode cX8_donate 37 = .ok (.iload_n 2, 1) := by decide +kernel
theorem dX8_donate_38 : decode cX8_donate 38 = .ok (.invokevirtual 98, 3) := by decide +kernel
theorem dX8_donate_41 : decode cX8_donate 41 = .ok (.aload_n 0, 1) := by decide +kernel
theorem dX8_donate_42 : decode cX8_donate 42 = .ok (.getfield 46, 3) := by decide +kernel
theorem dX8_donate_45 : decode cX8_donate 45 = .ok (.iconst 1, 1) := by decide +kernel
theorem dX8_donate_46 : decode cX8_donate 46 = .ok (.iaload, 1) := by decide +kernel
theorem dX8_donate_47 : decode cX8_donate 47 = .ok (.if_icmp .lt 27, 3) := by decide +kernel
theorem dX8_donate_50 : decode cX8_donate 50 = .ok (.aload_n 0, 1) := by decide +kernel
theorem dX8_donate_51 : decode cX8_donate 51 = .ok (.getfield 21, 3) := by decide +kernel
theorem dX8_donate_54 : decode cX8_donate 54 = .ok (.getfield 103, 3) := by decide +kernel
theorem dX8_donate_57 : decode cX8_donate 57 = .ok (.iload_n 2, 1) := by decide +kernel
theorem dX8_donate_58 : decode cX8_donate 58 = .ok (.iaload, 1) := by decide +kernel
theorem dX8_donate_59 : decode cX8_donate 59 = .ok (.iload_n 1, 1) := by decide +kernel
theorem dX8_donate_60 : decode cX8_donate 60 = .ok (.invokestatic 174, 3) := by decide +kernel
theorem dX8_donate_63 : decode cX8_donate 63 = .ok (.istore_n 3, 1) := by decide +kernel
theorem dX8_donate_64 : decode cX8_donate 64 = .ok (.aload_n 0, 1) := by decide +kernel
theorem dX8_donate_65 : decode cX8_donate 65 = .ok (.iload_n 2, 1) := by decide +kernel
theorem dX8_donate_66 : decode cX8_donate 66 = .ok (.iload_n 3, 1) := by decide +kernel
theorem dX8_donate_67 : decode cX8_donate 67 = .ok (.invokevirtual 179, 3) := by decide +kernel
theorem dX8_donate_70 : decode cX8_donate 70 = .ok (.iload_n 1, 1) := by decide +kernel
theorem dX8_donate_71 : decode cX8_donate 71 = .ok (.iload_n 3, 1) := by decide +kernel
theorem dX8_donate_72 : decode cX8_donate 72 = .ok (.isub, 1) := by decide +kernel
theorem dX8_donate_73 : decode cX8_donate 73 = .ok (.istore_n 1, 1) := by decide +kernel
theorem dX8_donate_74 : decode cX8_donate 74 = .ok (.iinc 2 1, 3) := by decide +kernel
theorem dX8_donate_77 : decode cX8_donate 77 = .ok (.goto (-68), 3) := by decide +kernel
theorem dX8_donate_80 : decode cX8_donate 80 = .ok (.return_, 1) := by decide +kernel
set_option maxRecDepth 20000 in
theorem ggX9_init_X8_init : GoodIn wsX9_init wsX8_init := goodIn_r _ [25, 26, 2, 3, 27, 28, 29, 30, 31, 32, 33, 34, 35, 36, 37, 38, 39, 40, 41, 42, 43, 44, 45, 46, 47, 48, 49, 50, 51, 52, 53, 54, 55, 56, 57, 58, 59, 60, 61, 62, 63, 64, 65, 66, 67, 68, 69, 70, 71, 72, 73, 74, 75, 76, 77, 78, 79, 80, 81, 82, 83, 84, 85, 86, 87, 88, 89, 90, 91, 92, 93, 94, 95, 96, 97, 98, 153, 154, 155, 156, 157, 118, 119, 120, 121, 122, 123, 124, 125, 158, 159, 160, 161, 162, 163, 164, 165, 166, 167, 168, 169, 170, 171, 172, 173, 174, 175, 176, 177, 178, 179, 180, 181, 182, 183, 184, 185, 186, 187, 188] (by decide +kernel) (by decide +kernel)
set_option maxRecDepth 20000 in
theorem gX9_init_X8_init_n11 : GoodIn wsX9_init (wsX8_init) := ggX9_init_X8_init
set_option maxRecDepth 20000 in
theorem ggX9_init_X4_init : GoodIn wsX9_init wsX4_init := goodIn_r _ [101, 102, 2, 3, 103, 104, 5, 6, 24, 25, 26, 27, 28, 29, 30, 31, 32, 33, 34, 35, 36, 37, 38, 39, 40, 41, 42, 43, 44, 45, 46, 47, 48, 49, 50, 51, 52, 53, 54, 55, 56, 57, 58, 59, 60, 61, 62, 63, 64, 65, 66, 67, 68, 69, 70, 71, 72, 73, 74, 75, 76, 77, 78, 79, 80, 81, 82, 83, 84, 85, 86, 87, 88, 89, 90, 91, 92, 93, 94, 95, 96, 97, 98, 135, 136, 137, 118, 119, 120, 121, 122, 123, 124, 125, 153, 154, 155, 156, 157, 158, 159, 160, 161, 162, 163, 164, 165, 166, 167, 168, 169, 170, 171, 172, 173, 174, 175, 176, 177, 178, 179, 180, 181, 182, 183, 184, 185, 186, 187, 188] (by decide +kernel) (by decide +kernel)
set_option maxRecDepth 20000 in
theorem gX9_init_X4_init : GoodIn wsX9_init (wsX4_init) := ggX9_init_X4_init
set_option maxRecDepth 20000 in
theorem ggX9_init_X2_init : GoodIn wsX9_init wsX2_init := goodIn_r _ [106, 107, 2, 3, 47, 108, 109, 110, 111, 87, 112, 138, 139, 140, 141, 142, 143, 144, 145, 146, 147, 148] (by decide +kernel) (by decide +kernel)
set_option maxRecDepth 20000 in
theorem gX9_init_X2_init_n31 : GoodIn wsX9_init (wsX2_init) := ggX9_init_X2_init
set_option maxRecDepth 20000 in
theorem ggX9_init_X1_init : GoodIn wsX9_init wsX1_init := goodIn_r _ [114, 115, 2, 3, 116, 47, 117, 149, 150, 151, 152] (by decide +kernel) (by decide +kernel)
set_option maxRecDepth 20000 in
theorem gX9_init_X1_init_n38 : GoodIn wsX9_init (wsX1_init) := ggX9_init_X1_init
theorem dX9_init_0 : decode cX9_init 0 = .ok (.aload_n 0, 1) := by decide +kernel
theorem dX9_init_1 : decode cX9_init 1 = .ok (.invokespecial 3, 3) := by decide +kernel
theorem dX9_init_4 : decode cX9_init 4 = .ok (.aload_n 0, 1) := by decide +kernel
theorem dX9_init_5 : decode cX9_init 5 = .ok (.new 9, 3) := by decide +kernel
theorem dX9_init_8 : decode cX9_init 8 = .ok (.dup, 1) := by decide +kernel
theorem dX9_init_9 : decode cX9_init 9 = .ok (.invokespecial 11, 3) := by decide +kernel
theorem dX9_init_12 : decode cX9_init 12 = .ok (.putfield 12, 3) := by decide +kernel
theorem dX9_init_15 : decode cX9_init 15 = .ok (.aload_n 0, 1) := by decide +kernel
theorem dX9_init_16 : decode cX9_init 16 = .ok (.new 9, 3) := by decide +kernel
theorem dX9_init_19 : decode cX9_init 19 = .ok (.dup, 1) := by decide +kernel
theorem dX9_init_20 : decode cX9_init 20 = .ok (.invokespecial 11, 3) := by decide +kernel
theorem dX9_init_23 : decode cX9_init 23 = .ok (.putfield 16, 3) := by decide +kernel
theorem dX9_init_26 : decode cX9_init 26 = .ok (.aload_n 0, 1) := by decide +kernel
theorem dX9_init_27 : decode cX9_init 27 = .ok (.new 9, 3) := by decide +kernel
theorem dX9_init_30 : decode cX9_init 30 = .ok (.dup, 1) := by decide +kernel
theorem dX9_init_31 : decode cX9_init 31 = .ok (.invokespecial 11, 3) := by decide +kernel
theorem dX9_init_34 : decode cX9_init 34 = .ok (.putfield 19, 3) := by decide +kernel
theorem dX9_init_37 : decode cX9_init 37 = .ok (.aload_n 0, 1) := by decide +kernel
theorem dX9_init_38 : decode cX9_init 38 = .ok (.new 22, 3) := by decide +kernel
theorem dX9_init_41 : decode cX9_init 41 = .ok (.dup, 1) := by decide +kernel
theorem dX9_init_42 : decode cX9_init 42 = .ok (.invokespecial 24, 3) := by decide +kernel
theorem dX9_init_45 : decode cX9_init 45 = .ok (.putfield 25, 3) := by decide +kernel
theorem dX9_init_48 : decode cX9_init 48 = .ok (.aload_n 0, 1) := by decide +kernel
theorem dX9_init_49 : decode cX9_init 49 = .ok (.new 29, 3) := by decide +kernel
theorem dX9_init_52 : decode cX9_init 52 = .ok (.dup, 1) := by decide +kernel
theorem dX9_init_53 : decode cX9_init 53 = .ok (.invokespecial 31, 3) := by decide +kernel
theorem dX9_init_56 : decode cX9_init 56 = .ok (.putfield 32, 3) := by decide +kernel
theorem dX9_init_59 : decode cX9_init 59 = .ok (.aload_n 0, 1) := by decide +kernel
theorem dX9_init_60 : decode cX9_init 60 = .ok (.new 36, 3) := by decide +kernel
theorem dX9_init_63 : decode cX9_init 63 = .ok (.dup, 1) := by decide +kernel
theorem dX9_init_64 : decode cX9_init 64 = .ok (.invokespecial 38, 3) := by decide +kernel
theorem dX9_init_67 : decode cX9_init 67 = .ok (.putfield 39, 3) := by decide +kernel
theorem dX9_init_70 : decode cX9_init 70 = .ok (.aload_n 0, 1) := by decide +kernel
theorem dX9_init_71 : decode cX9_init 71 = .ok (.bipush 60, 2) := by decide +kernel
theorem dX9_init_73 : decode cX9_init 73 = .ok (.newarray .char, 2) := by decide +kernel
theorem dX9_init_75 : decode cX9_init 75 = .ok (.putfield 43, 3) := by decide +kernel
theorem dX9_init_78 : decode cX9_init 78 = .ok (.return_, 1) := by decide +kernel
set_option maxRecDepth 20000 in
theorem ggX9_addGood_X9_within : GoodIn wsX9_addGood wsX9_within := goodIn_r _ [8] (by decide +kernel) (by decide +kernel)
set_option maxRecDepth 20000 in
theorem gX9_addGood_X9_within : GoodIn wsX9_addGood (va_wsS RX9 47 yX9_within wsX9_within) := goodIn_app (goodIn_of _ (by decide +kernel)) ggX9_addGood_X9_within
set_option maxRecDepth 20000 in
theorem ggX9_addGood_X4_push : GoodIn wsX9_addGood wsX4_push := goodIn_r _ [13, 14, 15, 16, 17, 18, 19, 20, 21, 22, 23, 24, 25, 26, 27, 28, 29, 30, 31, 32, 33, 34, 35, 36, 37, 38, 39, 40, 7, 41, 42, 43, 44, 45, 46, 47, 48, 49, 50, 51, 52, 53, 54, 55, 56, 57, 58, 59, 60, 61, 62, 63, 64, 65, 66, 67, 68, 69, 70, 71, 72, 73, 74, 75, 76, 77, 78, 79, 80, 81, 82, 83, 84, 85, 86, 87, 88, 89, 90, 91, 92, 93, 94, 95, 96, 97, 98, 99, 100, 127, 128, 129, 114, 115, 116, 117, 118, 119, 120, 121, 122, 123, 124, 125, 126, 130, 131, 132, 133, 134, 135, 136, 137, 138, 139, 140, 141, 142, 143, 144, 145, 146, 147, 148, 149, 150, 151, 152, 153, 154, 155, 156, 157, 158, 159, 160] (by decide +kernel) (by decide +kernel)
set_option maxRecDepth 20000 in
theorem gX9_addGood_X4_push : GoodIn wsX9_addGood (wsV RX9 61 RX4 yX4_push wsX4_push) := goodIn_app (goodIn_of _ (by decide +kernel)) ggX9_addGood_X4_push
set_option maxRecDepth 20000 in
theorem ggX9_addGood_X3_append : GoodIn wsX9_addGood wsX3_append := goodIn_r _ [104, 35, 36, 37, 122, 123, 124, 125, 126] (by decide +kernel) (by decide +kernel)
set_option maxRecDepth 20000 in
theorem gX9_addGood_X3_append : GoodIn wsX9_addGood (wsV RX9 65 RX3 yX3_append wsX3_append) := goodIn_app (goodIn_of _ (by decide +kernel)) ggX9_addGood_X3_append
theorem dX9_addGood_0 : decode cX9_addGood 0 = .ok (.iload_n 1, 1) := by decide +kernel
theorem dX9_addGood_1 : decode cX9_addGood 1 = .ok (.iconst 1, 1) := by decide +kernel
theorem dX9_addGood_2 : decode cX9_addGood 2 = .ok (.sipush 9999, 3) := by decide +kernel
theorem dX9_addGood_5 : decode cX9_addGood 5 = .ok (.invokestatic 47, 3) := by decide +kernel
theorem dX9_addGood_8 : decode cX9_addGood 8 = .ok (.ifCond .eq 13, 3) := by decide +kernel
theorem dX9_addGood_11 : decode cX9_addGood 11 = .ok (.iload_n 2, 1) := by decide +kernel
theorem dX9_addGood_12 : decode cX9_addGood 12 = .ok (.iconst 1, 1) := by decide +kernel
theorem dX9_addGood_13 : decode cX9_addGood 13 = .ok (.bipush 60, 2) := by decide +kernel
theorem dX9_addGood_15 : decode cX9_addGood 15 = .ok (.invokestatic 47, 3) := by decide +kernel
theorem dX9_addGood_18 : decode cX9_addGood 18 = .ok (.ifCond .ne 6, 3) := by decide +kernel
theorem dX9_addGood_21 : decode cX9_addGood 21 = .ok (.bipush (-2), 2) := by decide +kernel
theorem dX9_addGood_23 : decode cX9_addGood 23 = .ok (.ireturn, 1) := by decide +kernel
theorem dX9_addGood_24 : decode cX9_addGood 24 = .ok (.aload_n 0, 1) := by decide +kernel
theorem dX9_addGood_25 : decode cX9_addGood 25 = .ok (.getfield 12, 3) := by decide +kernel
theorem dX9_addGood_28 : decode cX9_addGood 28 = .ok (.getfield 51, 3) := by decide +kernel
theorem dX9_addGood_31 : decode cX9_addGood 31 = .ok (.getfield 55, 3) := by decide +kernel
theorem dX9_addGood_34 : decode cX9_addGood 34 = .ok (.bipush 12, 2) := by decide +kernel
theorem dX9_addGood_36 : decode cX9_addGood 36 = .ok (.if_icmp .lt 6, 3) := by decide +kernel
theorem dX9_addGood_39 : decode cX9_addGood 39 = .ok (.bipush (-3), 2) := by decide +kernel
theorem dX9_addGood_41 : decode cX9_addGood 41 = .ok (.ireturn, 1) := by decide +kernel
theorem dX9_addGood_42 : decode cX9_addGood 42 = .ok (.aload_n 0, 1) := by decide +kernel
theorem dX9_addGood_43 : decode cX9_addGood 43 = .ok (.getfield 25, 3) := by decide +kernel
theorem dX9_addGood_46 : decode cX9_addGood 46 = .ok (.aload_n 0, 1) := by decide +kernel
theorem dX9_addGood_47 : decode cX9_addGood 47 = .ok (.getfield 12, 3) := by decide +kernel
theorem dX9_addGood_50 : decode cX9_addGood 50 = .ok (.invokevirtual 61, 3) := by decide +kernel
theorem dX9_addGood_53 : decode cX9_addGood 53 = .ok (.aload_n 0, 1) := by decide +kernel
theorem dX9_addGood_54 : decode cX9_addGood 54 = .ok (.getfield 12, 3) := by decide +kernel
theorem dX9_addGood_57 : decode cX9_addGood 57 = .ok (.getfield 51, 3) := by decide +kernel
theorem dX9_addGood_60 : decode cX9_addGood 60 = .ok (.iload_n 1, 1) := by decide +kernel
theorem dX9_addGood_61 : decode cX9_addGood 61 = .ok (.iload_n 2, 1) := by decide +kernel
theorem dX9_addGood_62 : decode cX9_addGood 62 = .ok (.invokevirtual 65, 3) := by decide +kernel
theorem dX9_addGood_65 : decode cX9_addGood 65 = .ok (.ireturn, 1) := by decide +kernel
set_option maxRecDepth 20000 in
theorem ggX9_addSubstitute_X9_hasGood : GoodIn wsX9_addSubstitute wsX9_hasGood := goodIn_r _ [9, 1, 2, 10, 11, 12, 8, 13, 118, 119, 120, 121, 122, 123, 124, 125, 126, 127, 128, 129, 130, 131, 132, 133, 134, 135, 136, 137, 138, 139] (by decide +kernel) (by decide +kernel)
set_option maxRecDepth 20000 in
theorem gX9_addSubstitute_X9_hasGood : GoodIn wsX9_addSubstitute (wsV RX9 69 RX9 yX9_hasGood wsX9_hasGood) := goodIn_app (goodIn_of _ (by decide +kernel)) ggX9_addSubstitute_X9_hasGood
set_option maxRecDepth 20000 in
theorem ggX9_addSubstitute_X9_within : GoodIn wsX9_addSubstitute wsX9_within := goodIn_r _ [13] (by decide +kernel) (by decide +kernel)
set_option maxRecDepth 20000 in
theorem gX9_addSubstitute_X9_within : GoodIn wsX9_addSubstitute (va_wsS RX9 47 yX9_within wsX9_within) := goodIn_app (goodIn_of _ (by decide +kernel)) ggX9_addSubstitute_X9_within
set_option maxRecDepth 20000 in
theorem ggX9_addSubstitute_X3_lists : GoodIn wsX9_addSubstitute wsX3_lists := goodIn_r _ [18, 19, 20, 21, 22, 17, 23, 24, 135, 136, 137, 138, 139] (by decide +kernel) (by decide +kernel)
set_option maxRecDepth 20000 in
theorem gX9_addSubstitute_X3_lists : GoodIn wsX9_addSubstitute (wsV RX9 80 RX3 yX3_lists wsX3_lists) := goodIn_app (goodIn_of _ (by decide +kernel)) ggX9_addSubstitute_X3_lists
set_option maxRecDepth 20000 in
theorem ggX9_addSubstitute_X4_push : GoodIn wsX9_addSubstitute wsX4_push := goodIn_r _ [29, 30, 31, 32, 33, 34, 35, 36, 37, 38, 39, 40, 41, 42, 43, 44, 45, 46, 47, 48, 17, 49, 50, 51, 52, 19, 24, 53, 8, 54, 55, 56, 57, 58, 59, 60, 61, 62, 63, 64, 65, 66, 67, 68, 69, 70, 71, 72, 73, 74, 75, 76, 77, 78, 79, 80, 81, 82, 83, 84, 85, 86, 87, 88, 89, 90, 91, 92, 93, 94, 95, 96, 97, 98, 99, 100, 101, 102, 103, 104, 105, 106, 107, 108, 109, 110, 111, 112, 113, 140, 141, 142, 127, 128, 129, 130, 131, 132, 133, 134, 135, 136, 137, 138, 139, 143, 144, 145, 146, 147, 148, 149, 150, 151, 152, 153, 154, 155, 156, 157, 158, 159, 160, 161, 162, 163, 164, 165, 166, 167, 168, 169, 170, 171, 172, 173] (by decide +kernel) (by decide +kernel)
set_option maxRecDepth 20000 in
theorem gX9_addSubstitute_X4_push : GoodIn wsX9_addSubstitute (wsV RX9 61 RX4 yX4_push wsX4_push) := goodIn_app (goodIn_of _ (by decide +kernel)) ggX9_addSubstitute_X4_push
set_option maxRecDepth 20000 in
theorem ggX9_addSubstitute_X3_insert : GoodIn wsX9_addSubstitute wsX3_insert := goodIn_r _ [117, 19, 24, 135, 136, 137, 138, 139] (by decide +kernel) (by decide +kernel)
set_option maxRecDepth 20000 in
theorem gX9_addSubstitute_X3_insert : GoodIn wsX9_addSubstitute (wsV RX9 84 RX3 yX3_insert wsX3_insert) := goodIn_app (goodIn_of _ (by decide +kernel)) ggX9_addSubstitute_X3_insert
theorem dX9_addSubstitute_0 : decode cX9_addSubstitute 0 = .ok (.aload_n 0, 1) := by decide +kernel
theorem dX9_addSubstitute_1 : decode cX9_addSubstitute 1 = .ok (.iload_n 1, 1) := by decide +kernel
theorem dX9_addSubstitute_2 : decode cX9_addSubstitute 2 = .ok (.invokevirtual 69, 3) := by decide +kernel
theorem dX9_addSubstitute_5 : decode cX9_addSubstitute 5 = .ok (.ifCond .eq 11, 3) := by decide +kernel
theorem dX9_addSubstitute_8 : decode cX9_addSubstitute 8 = .ok (.aload_n 0, 1) := by decide +kernel
theorem dX9_addSubstitute_9 : decode cX9_addSubstitute 9 = .ok (.iload_n 2, 1) := by decide +kernel
theorem dX9_addSubstitute_10 : decode cX9_addSubstitute 10 = .ok (.invokevirtual 69, 3) := by decide +kernel
theorem dX9_addSubstitute_13 : decode cX9_addSubstitute 13 = .ok (.ifCond .ne 5, 3) := by decide +kernel
theorem dX9_addSubstitute_16 : decode cX9_addSubstitute 16 = .ok (.iconst (-1), 1) := by decide +kernel
theorem dX9_addSubstitute_17 : decode cX9_addSubstitute 17 = .ok (.ireturn, 1) := by decide +kernel
theorem dX9_addSubstitute_18 : decode cX9_addSubstitute 18 = .ok (.aload_n 0, 1) := by decide +kernel
theorem dX9_addSubstitute_19 : decode cX9_addSubstitute 19 = .ok (.getfield 12, 3) := by decide +kernel
theorem dX9_addSubstitute_22 : decode cX9_addSubstitute 22 = .ok (.getfield 51, 3) := by decide +kernel
theorem dX9_addSubstitute_25 : decode cX9_addSubstitute 25 = .ok (.astore 4, 2) := by decide +kernel
theorem dX9_addSubstitute_27 : decode cX9_addSubstitute 27 = .ok (.iload_n 1, 1) := by decide +kernel
theorem dX9_addSubstitute_28 : decode cX9_addSubstitute 28 = .ok (.iload_n 2, 1) := by decide +kernel
theorem dX9_addSubstitute_29 : decode cX9_addSubstitute 29 = .ok (.if_icmp .eq 18, 3) := by decide +kernel
theorem dX9_addSubstitute_32 : decode cX9_addSubstitute 32 = .ok (.iload_n 3, 1) := by decide +kernel
theorem dX9_addSubstitute_33 : decode cX9_addSubstitute 33 = .ok (.iconst 0, 1) := by decide +kernel
theorem dX9_addSubstitute_34 : decode cX9_addSubstitute 34 = .ok (.aload 4, 2) := by decide +kernel
theorem dX9_addSubstitute_36 : decode cX9_addSubstitute 36 = .ok (.getfield 77, 3) := by decide +kernel
theorem dX9_addSubstitute_39 : decode cX9_addSubstitute 39 = .ok (.iload_n 1, 1) := by decide +kernel
theorem dX9_addSubstitute_40 : decode cX9_addSubstitute 40 = .ok (.iaload, 1) := by decide +kernel
theorem dX9_addSubstitute_41 : decode cX9_addSubstitute 41 = .ok (.invokestatic 47, 3) := by decide +kernel
theorem dX9_addSubstitute_44 : decode cX9_addSubstitute 44 = .ok (.ifCond .ne 6, 3) := by decide +kernel
theorem dX9_addSubstitute_47 : decode cX9_addSubstitute 47 = .ok (.bipush (-2), 2) := by decide +kernel
theorem dX9_addSubstitute_49 : decode cX9_addSubstitute 49 = .ok (.ireturn, 1) := by decide +kernel
theorem dX9_addSubstitute_50 : decode cX9_addSubstitute 50 = .ok (.aload 4, 2) := by decide +kernel
theorem dX9_addSubstitute_52 : decode cX9_addSubstitute 52 = .ok (.iload_n 1, 1) := by decide +kernel
theorem dX9_addSubstitute_53 : decode cX9_addSubstitute 53 = .ok (.iload_n 2, 1) := by decide +kernel
theorem dX9_addSubstitute_54 : decode cX9_addSubstitute 54 = .ok (.invokevirtual 80, 3) := by decide +kernel
theorem dX9_addSubstitute_57 : decode cX9_addSubstitute 57 = .ok (.ifCond .eq 6, 3) := by decide +kernel
theorem dX9_addSubstitute_60 : decode cX9_addSubstitute 60 = .ok (.bipush (-4), 2) := by decide +kernel
theorem dX9_addSubstitute_62 : decode cX9_addSubstitute 62 = .ok (.ireturn, 1) := by decide +kernel
theorem dX9_addSubstitute_63 : decode cX9_addSubstitute 63 = .ok (.aload 4, 2) := by decide +kernel
theorem dX9_addSubstitute_65 : decode cX9_addSubstitute 65 = .ok (.getfield 77, 3) := by decide +kernel
theorem dX9_addSubstitute_68 : decode cX9_addSubstitute 68 = .ok (.iload_n 1, 1) := by decide +kernel
theorem dX9_addSubstitute_69 : decode cX9_addSubstitute 69 = .ok (.iaload, 1) := by decide +kernel
theorem dX9_addSubstitute_70 : decode cX9_addSubstitute 70 = .ok (.iconst 4, 1) := by decide +kernel
theorem dX9_addSubstitute_71 : decode cX9_addSubstitute 71 = .ok (.if_icmp .lt 6, 3) := by decide +kernel
theorem dX9_addSubstitute_74 : decode cX9_addSubstitute 74 = .ok (.bipush (-3), 2) := by decide +kernel
theorem dX9_addSubstitute_76 : decode cX9_addSubstitute 76 = .ok (.ireturn, 1) := by decide +kernel
theorem dX9_addSubstitute_77 : decode cX9_addSubstitute 77 = .ok (.aload_n 0, 1) := by decide +kernel
theorem dX9_addSubstitute_78 : decode cX9_addSubstitute 78 = .ok (.getfield 25, 3) := by decide +kernel
theorem dX9_addSubstitute_81 : decode cX9_addSubstitute 81 = .ok (.aload_n 0, 1) := by decide +kernel
theorem dX9_addSubstitute_82 : decode cX9_addSubstitute 82 = .ok (.getfield 12, 3) := by decide +kernel
theorem dX9_addSubstitute_85 : decode cX9_addSubstitute 85 = .ok (.invokevirtual 61, 3) := by decide +kernel
theorem dX9_addSubstitute_88 : decode cX9_addSubstitute 88 = .ok (.aload 4, 2) := by decide +kernel
theorem dX9_addSubstitute_90 : decode cX9_addSubstitute 90 = .ok (.iload_n 1, 1) := by decide +kernel
theorem dX9_addSubstitute_91 : decode cX9_addSubstitute 91 = .ok (.iload_n 2, 1) := by decide +kernel
theorem dX9_addSubstitute_92 : decode cX9_addSubstitute 92 = .ok (.iload_n 3, 1) := by decide +kernel
theorem dX9_addSubstitute_93 : decode cX9_addSubstitute 93 = .ok (.invokevirtual 84, 3) := by decide +kernel
theorem dX9_addSubstitute_96 : decode cX9_addSubstitute 96 = .ok (.aload 4, 2) := by decide +kernel
theorem dX9_addSubstitute_98 : decode cX9_addSubstitute 98 = .ok (.getfield 77, 3) := by decide +kernel
theorem dX9_addSubstitute_101 : decode cX9_addSubstitute 101 = .ok (.iload_n 1, 1) := by decide +kernel
theorem dX9_addSubstitute_102 : decode cX9_addSubstitute 102 = .ok (.iaload, 1) := by decide +kernel
theorem dX9_addSubstitute_103 : decode cX9_addSubstitute 103 = .ok (.ireturn, 1) := by decide +kernel
set_option maxRecDepth 20000 in
theorem ggX9_set_X9_isSetting : GoodIn wsX9_set wsX9_isSetting := goodIn_r _ [7, 8, 9, 6, 10] (by decide +kernel) (by decide +kernel)
set_option maxRecDepth 20000 in
theorem gX9_set_X9_isSetting : GoodIn wsX9_set (va_wsS RX9 115 yX9_isSetting wsX9_isSetting) := goodIn_app (goodIn_of _ (by decide +kernel)) ggX9_set_X9_isSetting
set_option maxRecDepth 20000 in
theorem ggX9_set_X4_push : GoodIn wsX9_set wsX4_push := goodIn_r _ [15, 16, 17, 18, 19, 20, 21, 22, 23, 24, 25, 26, 27, 28, 29, 30, 31, 32, 33, 34, 35, 36, 37, 38, 39, 40, 41, 42, 6, 43, 44, 45, 46, 47, 48, 49, 50, 51, 52, 53, 54, 55, 56, 57, 58, 59, 60, 61, 62, 63, 64, 65, 66, 67, 68, 69, 70, 71, 72, 73, 74, 75, 76, 77, 78, 79, 80, 81, 82, 83, 84, 85, 86, 87, 88, 89, 90, 91, 92, 93, 94, 95, 96, 97, 98, 99, 100, 101, 102, 120, 121, 122, 112, 113, 114, 115, 116, 117, 118, 119, 123, 124, 125, 126, 127, 128, 129, 130, 131, 132, 133, 134, 135, 136, 137, 138, 139, 140, 141, 142, 143, 144, 145, 146, 147, 148, 149, 150, 151, 152, 153, 154, 155, 156, 157, 158] (by decide +kernel) (by decide +kernel)
set_option maxRecDepth 20000 in
theorem gX9_set_X4_push : GoodIn wsX9_set (wsV RX9 61 RX4 yX4_push wsX4_push) := goodIn_app (goodIn_of _ (by decide +kernel)) ggX9_set_X4_push
theorem dX9_set_0 : decode cX9_set 0 = .ok (.iload_n 1, 1) := by decide +kernel
theorem dX9_set_1 : decode cX9_set 1 = .ok (.iload_n 2, 1) := by decide +kernel
theorem dX9_set_2 : decode cX9_set 2 = .ok (.invokestatic 115, 3) := by decide +kernel
theorem dX9_set_5 : decode cX9_set 5 = .ok (.ifCond .ne 6, 3) := by decide +kernel
theorem dX9_set_8 : decode cX9_set 8 = .ok (.bipush (-2), 2) := by decide +kernel
theorem dX9_set_10 : decode cX9_set 10 = .ok (.ireturn, 1) := by decide +kernel
theorem dX9_set_11 : decode cX9_set 11 = .ok (.aload_n 0, 1) := by decide +kernel
theorem dX9_set_12 : decode cX9_set 12 = .ok (.getfield 12, 3) := by decide +kernel
theorem dX9_set_15 : decode cX9_set 15 = .ok (.getfield 118, 3) := by decide +kernel
theorem dX9_set_18 : decode cX9_set 18 = .ok (.iload_n 1, 1) := by decide +kernel
theorem dX9_set_19 : decode cX9_set 19 = .ok (.iaload, 1) := by decide +kernel
theorem dX9_set_20 : decode cX9_set 20 = .ok (.istore_n 3, 1) := by decide +kernel
theorem dX9_set_21 : decode cX9_set 21 = .ok (.iload_n 3, 1) := by decide +kernel
theorem dX9_set_22 : decode cX9_set 22 = .ok (.iload_n 2, 1) := by decide +kernel
theorem dX9_set_23 : decode cX9_set 23 = .ok (.if_icmp .ne 6, 3) := by decide +kernel
theorem dX9_set_26 : decode cX9_set 26 = .ok (.bipush (-5), 2) := by decide +kernel
theorem dX9_set_28 : decode cX9_set 28 = .ok (.ireturn, 1) := by decide +kernel
theorem dX9_set_29 : decode cX9_set 29 = .ok (.aload_n 0, 1) := by decide +kernel
theorem dX9_set_30 : decode cX9_set 30 = .ok (.getfield 25, 3) := by decide +kernel
theorem dX9_set_33 : decode cX9_set 33 = .ok (.aload_n 0, 1) := by decide +kernel
theorem dX9_set_34 : decode cX9_set 34 = .ok (.getfield 12, 3) := by decide +kernel
theorem dX9_set_37 : decode cX9_set 37 = .ok (.invokevirtual 61, 3) := by decide +kernel
theorem dX9_set_40 : decode cX9_set 40 = .ok (.aload_n 0, 1) := by decide +kernel
theorem dX9_set_41 : decode cX9_set 41 = .ok (.getfield 12, 3) := by decide +kernel
theorem dX9_set_44 : decode cX9_set 44 = .ok (.getfield 118, 3) := by decide +kernel
theorem dX9_set_47 : decode cX9_set 47 = .ok (.iload_n 1, 1) := by decide +kernel
theorem dX9_set_48 : decode cX9_set 48 = .ok (.iload_n 2, 1) := by decide +kernel
theorem dX9_set_49 : decode cX9_set 49 = .ok (.iastore, 1) := by decide +kernel
theorem dX9_set_50 : decode cX9_set 50 = .ok (.iload_n 3, 1) := by decide +kernel
theorem dX9_set_51 : decode cX9_set 51 = .ok (.ireturn, 1) := by decide +kernel
set_option maxRecDepth 20000 in
theorem ggX9_setRebate_X9_within : GoodIn wsX9_setRebate wsX9_within := goodIn_r _ [8] (by decide +kernel) (by decide +kernel)
set_option maxRecDepth 20000 in
theorem gX9_setRebate_X9_within : GoodIn wsX9_setRebate (va_wsS RX9 47 yX9_within wsX9_within) := goodIn_app (goodIn_of _ (by decide +kernel)) ggX9_setRebate_X9_within
set_option maxRecDepth 20000 in
theorem ggX9_setRebate_X9_floatOfBits : GoodIn wsX9_setRebate wsX9_floatOfBits := goodIn_r _ [11, 12, 13, 14] (by decide +kernel) (by decide +kernel)
set_option maxRecDepth 20000 in
theorem gX9_setRebate_X9_floatOfBits : GoodIn wsX9_setRebate (va_wsS RX9 107 yX9_floatOfBits wsX9_floatOfBits) := goodIn_app (goodIn_of _ (by decide +kernel)) ggX9_setRebate_X9_floatOfBits
set_option maxRecDepth 20000 in
theorem ggX9_setRebate_X4_push : GoodIn wsX9_setRebate wsX4_push := goodIn_r _ [19, 20, 21, 22, 23, 24, 25, 26, 27, 28, 29, 30, 31, 32, 33, 34, 35, 36, 37, 38, 39, 40, 41, 42, 43, 44, 45, 46, 7, 47, 48, 49, 50, 51, 52, 53, 54, 55, 56, 57, 58, 59, 60, 61, 62, 63, 64, 65, 66, 67, 68, 69, 70, 71, 72, 73, 74, 75, 76, 77, 78, 79, 80, 81, 82, 83, 84, 85, 86, 87, 88, 89, 90, 91, 92, 93, 94, 95, 96, 97, 98, 99, 100, 101, 102, 103, 104, 105, 106, 124, 125, 126, 116, 117, 118, 119, 120, 121, 122, 123, 127, 128, 129, 130, 131, 132, 133, 134, 135, 136, 137, 138, 139, 140, 141, 142, 143, 144, 145, 146, 147, 148, 149, 150, 151, 152, 153, 154, 155, 156, 157, 158, 159, 160, 161, 162] (by decide +kernel) (by decide +kernel)
set_option maxRecDepth 20000 in
theorem gX9_setRebate_X4_push : GoodIn wsX9_setRebate (wsV RX9 61 RX4 yX4_push wsX4_push) := goodIn_app (goodIn_of _ (by decide +kernel)) ggX9_setRebate_X4_push
theorem dX9_setRebate_0 : decode cX9_setRebate 0 = .ok (.iload_n 1, 1) := by decide +kernel
theorem dX9_setRebate_1 : decode cX9_setRebate 1 = .ok (.iconst 0, 1) := by decide +kernel
theorem dX9_setRebate_2 : decode cX9_setRebate 2 = .ok (.ldc 121, 2) := by decide +kernel
theorem dX9_setRebate_4 : decode cX9_setRebate 4 = .ok (.invokestatic 47, 3) := by decide +kernel
theorem dX9_setRebate_7 : decode cX9_setRebate 7 = .ok (.ifCond .ne 6, 3) := by decide +kernel
theorem dX9_setRebate_10 : decode cX9_setRebate 10 = .ok (.bipush (-2), 2) := by decide +kernel
theorem dX9_setRebate_12 : decode cX9_setRebate 12 = .ok (.ireturn, 1) := by decide +kernel
theorem dX9_setRebate_13 : decode cX9_setRebate 13 = .ok (.iload_n 1, 1) := by decide +kernel
theorem dX9_setRebate_14 : decode cX9_setRebate 14 = .ok (.invokestatic 107, 3) := by decide +kernel
theorem dX9_setRebate_17 : decode cX9_setRebate 17 = .ok (.fstore_n 2, 1) := by decide +kernel
theorem dX9_setRebate_18 : decode cX9_setRebate 18 = .ok (.aload_n 0, 1) := by decide +kernel
theorem dX9_setRebate_19 : decode cX9_setRebate 19 = .ok (.getfield 12, 3) := by decide +kernel
theorem dX9_setRebate_22 : decode cX9_setRebate 22 = .ok (.getfield 122, 3) := by decide +kernel
theorem dX9_setRebate_25 : decode cX9_setRebate 25 = .ok (.fload_n 2, 1) := by decide +kernel
theorem dX9_setRebate_26 : decode cX9_setRebate 26 = .ok (.fcmp .l, 1) := by decide +kernel
theorem dX9_setRebate_27 : decode cX9_setRebate 27 = .ok (.ifCond .ne 6, 3) := by decide +kernel
theorem dX9_setRebate_30 : decode cX9_setRebate 30 = .ok (.bipush (-5), 2) := by decide +kernel
theorem dX9_setRebate_32 : decode cX9_setRebate 32 = .ok (.ireturn, 1) := by decide +kernel
theorem dX9_setRebate_33 : decode cX9_setRebate 33 = .ok (.aload_n 0, 1) := by decide +kernel
theorem dX9_setRebate_34 : decode cX9_setRebate 34 = .ok (.getfield 25, 3) := by decide +kernel
theorem dX9_setRebate_37 : decode cX9_setRebate 37 = .ok (.aload_n 0, 1) := by decide +kernel
theorem dX9_setRebate_38 : decode cX9_setRebate 38 = .ok (.getfield 12, 3) := by decide +kernel
theorem dX9_setRebate_41 : decode cX9_setRebate 41 = .ok (.invokevirtual 61, 3) := by decide +kernel
theorem dX9_setRebate_44 : decode cX9_setRebate 44 = .ok (.aload_n 0, 1) := by decide +kernel
theorem dX9_setRebate_45 : decode cX9_setRebate 45 = .ok (.getfield 12, 3) := by decide +kernel
theorem dX9_setRebate_48 : decode cX9_setRebate 48 = .ok (.fload_n 2, 1) := by decide +kernel
theorem dX9_setRebate_49 : decode cX9_setRebate 49 = .ok (.putfield 122, 3) := by decide +kernel
theorem dX9_setRebate_52 : decode cX9_setRebate 52 = .ok (.iconst 1, 1) := by decide +kernel
theorem dX9_setRebate_53 : decode cX9_setRebate 53 = .ok (.ireturn, 1) := by decide +kernel
set_option maxRecDepth 20000 in
theorem ggX9_bring_X9_hasGood : GoodIn wsX9_bring wsX9_hasGood := goodIn_r _ [9, 1, 10, 11, 12, 13, 8, 14, 125, 126, 127, 128, 129, 130, 131, 132, 133, 134, 135, 136, 137, 138, 139, 140, 141, 151, 152, 153, 154, 155] (by decide +kernel) (by decide +kernel)
set_option maxRecDepth 20000 in
theorem gX9_bring_X9_hasGood : GoodIn wsX9_bring (wsV RX9 69 RX9 yX9_hasGood wsX9_hasGood) := goodIn_app (goodIn_of _ (by decide +kernel)) ggX9_bring_X9_hasGood
set_option maxRecDepth 20000 in
theorem ggX9_bring_X9_isSupply : GoodIn wsX9_bring wsX9_isSupply := goodIn_r _ [18, 1, 10, 19, 12, 13, 8, 14, 125, 126, 127, 128, 129, 130, 131, 132, 133, 134, 135, 136, 137, 138, 139, 140, 141, 151, 152, 153, 154, 155] (by decide +kernel) (by decide +kernel)
set_option maxRecDepth 20000 in
theorem gX9_bring_X9_isSupply : GoodIn wsX9_bring (wsV RX9 126 RX9 yX9_isSupply wsX9_isSupply) := goodIn_app (goodIn_of _ (by decide +kernel)) ggX9_bring_X9_isSupply
set_option maxRecDepth 20000 in
theorem ggX9_bring_X4_push : GoodIn wsX9_bring wsX4_push := goodIn_r _ [24, 25, 26, 27, 28, 29, 30, 31, 32, 33, 34, 35, 36, 37, 38, 39, 40, 41, 42, 43, 44, 45, 46, 47, 48, 49, 50, 51, 8, 52, 53, 54, 55, 56, 57, 58, 59, 60, 61, 62, 63, 64, 65, 66, 67, 68, 69, 70, 71, 72, 73, 74, 75, 76, 77, 78, 79, 80, 81, 82, 83, 84, 85, 86, 87, 88, 89, 90, 91, 92, 93, 94, 95, 96, 97, 98, 99, 100, 101, 102, 103, 104, 105, 106, 107, 108, 109, 110, 111, 156, 157, 158, 134, 135, 136, 137, 138, 139, 140, 141, 151, 152, 153, 154, 155, 142, 143, 144, 145, 146, 147, 148, 149, 150, 159, 160, 161, 162, 163, 164, 165, 166, 167, 168, 169, 170, 171, 172, 173, 174, 175, 176, 177, 178, 179, 180] (by decide +kernel) (by decide +kernel)
set_option maxRecDepth 20000 in
theorem gX9_bring_X4_push : GoodIn wsX9_bring (wsV RX9 61 RX4 yX4_push wsX4_push) := goodIn_app (goodIn_of _ (by decide +kernel)) ggX9_bring_X4_push
set_option maxRecDepth 20000 in
theorem ggX9_bring_X8_receive : GoodIn wsX9_bring wsX8_receive := goodIn_r _ [115, 34, 37, 40, 116, 117, 118, 64, 119, 66, 67, 68, 69, 70, 120, 121, 122, 104, 123, 108, 107, 109, 110, 111, 106, 124, 54, 55, 56, 134, 135, 136, 137, 138, 139, 140, 141, 142, 143, 144, 145, 146, 147, 148, 149, 150, 175, 176, 177, 178, 179, 180] (by decide +kernel) (by decide +kernel)
set_option maxRecDepth 20000 in
theorem gX9_bring_X8_receive : GoodIn wsX9_bring (wsV RX9 136 RX8 yX8_receive wsX8_receive) := goodIn_app (goodIn_of _ (by decide +kernel)) ggX9_bring_X8_receive
theorem dX9_bring_0 : decode cX9_bring 0 = .ok (.aload_n 0, 1) := by decide +kernel
theorem dX9_bring_1 : decode cX9_bring 1 = .ok (.iload_n 1, 1) := by decide +kernel
theorem dX9_bring_2 : decode cX9_bring 2 = .ok (.invokevirtual 69, 3) := by decide +kernel
theorem dX9_bring_5 : decode cX9_bring 5 = .ok (.ifCond .ne 5, 3) := by decide +kernel
theorem dX9_bring_8 : decode cX9_bring 8 = .ok (.iconst (-1), 1) := by decide +kernel
theorem dX9_bring_9 : decode cX9_bring 9 = .ok (.ireturn, 1) := by decide +kernel
theorem dX9_bring_10 : decode cX9_bring 10 = .ok (.aload_n 0, 1) := by decide +kernel
theorem dX9_bring_11 : decode cX9_bring 11 = .ok (.iload_n 1, 1) := by decide +kernel
theorem dX9_bring_12 : decode cX9_bring 12 = .ok (.iload_n 2, 1) := by decide +kernel
theorem dX9_bring_13 : decode cX9_bring 13 = .ok (.iload_n 3, 1) := by decide +kernel
theorem dX9_bring_14 : decode cX9_bring 14 = .ok (.invokevirtual 126, 3) := by decide +kernel
theorem dX9_bring_17 : decode cX9_bring 17 = .ok (.ifCond .ne 6, 3) := by decide +kernel
theorem dX9_bring_20 : decode cX9_bring 20 = .ok (.bipush (-2), 2) := by decide +kernel
theorem dX9_bring_22 : decode cX9_bring 22 = .ok (.ireturn, 1) := by decide +kernel
theorem dX9_bring_23 : decode cX9_bring 23 = .ok (.aload_n 0, 1) := by decide +kernel
theorem dX9_bring_24 : decode cX9_bring 24 = .ok (.getfield 12, 3) := by decide +kernel
theorem dX9_bring_27 : decode cX9_bring 27 = .ok (.getfield 129, 3) := by decide +kernel
theorem dX9_bring_30 : decode cX9_bring 30 = .ok (.getfield 133, 3) := by decide +kernel
theorem dX9_bring_33 : decode cX9_bring 33 = .ok (.bipush 40, 2) := by decide +kernel
theorem dX9_bring_35 : decode cX9_bring 35 = .ok (.if_icmp .lt 6, 3) := by decide +kernel
theorem dX9_bring_38 : decode cX9_bring 38 = .ok (.bipush (-3), 2) := by decide +kernel
theorem dX9_bring_40 : decode cX9_bring 40 = .ok (.ireturn, 1) := by decide +kernel
theorem dX9_bring_41 : decode cX9_bring 41 = .ok (.aload_n 0, 1) := by decide +kernel
theorem dX9_bring_42 : decode cX9_bring 42 = .ok (.getfield 25, 3) := by decide +kernel
theorem dX9_bring_45 : decode cX9_bring 45 = .ok (.aload_n 0, 1) := by decide +kernel
theorem dX9_bring_46 : decode cX9_bring 46 = .ok (.getfield 12, 3) := by decide +kernel
theorem dX9_bring_49 : decode cX9_bring 49 = .ok (.invokevirtual 61, 3) := by decide +kernel
theorem dX9_bring_52 : decode cX9_bring 52 = .ok (.aload_n 0, 1) := by decide +kernel
theorem dX9_bring_53 : decode cX9_bring 53 = .ok (.getfield 12, 3) := by decide +kernel
theorem dX9_bring_56 : decode cX9_bring 56 = .ok (.iload_n 1, 1) := by decide +kernel
theorem dX9_bring_57 : decode cX9_bring 57 = .ok (.iload_n 2, 1) := by decide +kernel
theorem dX9_bring_58 : decode cX9_bring 58 = .ok (.iload_n 3, 1) := by decide +kernel
theorem dX9_bring_59 : decode cX9_bring 59 = .ok (.invokevirtual 136, 3) := by decide +kernel
theorem dX9_bring_62 : decode cX9_bring 62 = .ok (.ireturn, 1) := by decide +kernel
set_option maxRecDepth 20000 in
theorem ggX9_order_X9_wishError : GoodIn wsX9_order wsX9_wishError := goodIn_r _ [12, 13, 14, 15, 11, 16, 1, 17, 18, 19, 20, 21, 221, 222, 223, 224, 225, 226, 227, 228, 229, 230, 231, 232, 233, 234, 235, 236, 237, 263, 264, 265, 266, 267] (by decide +kernel) (by decide +kernel)
set_option maxRecDepth 20000 in
theorem gX9_order_X9_wishError : GoodIn wsX9_order (wsV RX9 162 RX9 yX9_wishError wsX9_wishError) := goodIn_app (goodIn_of _ (by decide +kernel)) ggX9_order_X9_wishError
set_option maxRecDepth 20000 in
theorem ggX9_order_X4_push : GoodIn wsX9_order wsX4_push := goodIn_r _ [26, 27, 28, 29, 30, 31, 32, 33, 34, 35, 36, 37, 38, 39, 40, 41, 42, 43, 44, 45, 46, 47, 48, 49, 50, 51, 52, 53, 11, 54, 55, 56, 57, 58, 59, 60, 61, 62, 63, 64, 65, 66, 67, 68, 69, 70, 71, 72, 73, 74, 75, 76, 77, 78, 79, 80, 81, 82, 83, 84, 85, 86, 87, 88, 89, 90, 91, 92, 93, 94, 95, 96, 97, 98, 99, 100, 101, 102, 103, 104, 105, 106, 107, 108, 109, 110, 111, 112, 113, 268, 269, 270, 230, 231, 232, 233, 234, 235, 236, 237, 263, 264, 265, 266, 267, 271, 272, 273, 274, 275, 276, 277, 278, 279, 238, 239, 240, 241, 242, 243, 244, 245, 246, 247, 248, 249, 250, 251, 280, 281, 282, 283, 284, 285, 286, 287] (by decide +kernel) (by decide +kernel)
set_option maxRecDepth 20000 in
theorem gX9_order_X4_push : GoodIn wsX9_order (wsV RX9 61 RX4 yX4_push wsX4_push) := goodIn_app (goodIn_of _ (by decide +kernel)) ggX9_order_X4_push
set_option maxRecDepth 20000 in
theorem ggX9_order_X6_append : GoodIn wsX9_order wsX6_append := goodIn_r _ [117, 82, 84, 85, 88, 89, 92, 93, 83, 238, 239, 240, 241, 242, 243, 244, 245, 246, 247, 248, 249, 250, 251] (by decide +kernel) (by decide +kernel)
set_option maxRecDepth 20000 in
theorem gX9_order_X6_append : GoodIn wsX9_order (wsV RX9 175 RX6 yX6_append wsX6_append) := goodIn_app (goodIn_of _ (by decide +kernel)) ggX9_order_X6_append
set_option maxRecDepth 20000 in
theorem ggX9_order_X2_fill : GoodIn wsX9_order wsX2_fill := goodIn_r _ [122, 123, 124, 125, 126, 127, 128, 129, 130, 131, 132, 133, 134, 135, 53, 11, 54, 55, 56, 57, 58, 59, 60, 61, 62, 136, 137, 138, 33, 139, 35, 140, 36, 141, 38, 142, 143, 144, 145, 146, 147, 148, 149, 150, 151, 152, 99, 153, 101, 154, 155, 156, 121, 157, 158, 159, 160, 161, 162, 163, 164, 165, 166, 167, 168, 169, 170, 171, 172, 173, 174, 175, 176, 177, 178, 179, 180, 181, 182, 183, 184, 185, 186, 187, 188, 46, 189, 52, 252, 253, 254, 255, 256, 257, 258, 259, 260, 261, 262, 230, 231, 232, 233, 234, 235, 236, 237, 271, 272, 273, 274, 275, 276, 277, 278, 279, 263, 264, 265, 266, 267, 280, 281] (by decide +kernel) (by decide +kernel)
set_option maxRecDepth 20000 in
theorem gX9_order_X2_fill : GoodIn wsX9_order (wsV RX9 178 RX2 yX2_fill wsX2_fill) := goodIn_app (goodIn_of _ (by decide +kernel)) ggX9_order_X2_fill
set_option maxRecDepth 20000 in
theorem ggX9_order_X8_sell : GoodIn wsX9_order wsX8_sell := goodIn_r _ [193, 194, 195, 196, 36, 197, 198, 199, 200, 37, 39, 42, 201, 202, 41, 203, 204, 205, 80, 206, 82, 83, 94, 95, 90, 207, 208, 209, 106, 210, 110, 109, 111, 112, 113, 108, 211, 56, 57, 58, 212, 213, 214, 121, 215, 123, 180, 216, 217, 218, 219, 220, 86, 87, 91, 252, 253, 254, 255, 256, 257, 258, 259, 260, 261, 262, 230, 231, 232, 233, 234, 235, 236, 237, 271, 272, 273, 274, 275, 276, 277, 278, 279, 238, 239, 240, 241, 242, 243, 244, 245, 246, 247, 248, 249, 250, 251, 282, 283, 284, 285, 286, 287] (by decide +kernel) (by decide +kernel)
set_option maxRecDepth 20000 in
theorem gX9_order_X8_sell : GoodIn wsX9_order (wsV RX9 182 RX8 yX8_sell wsX8_sell) := goodIn_app (goodIn_of _ (by decide +kernel)) ggX9_order_X8_sell
theorem dX9_order_0 : decode cX9_order 0 = .ok (.aload_n 0, 1) := by decide +kernel
theorem dX9_order_1 : decode cX9_order 1 = .ok (.iload_n 1, 1) := by decide +kernel
theorem dX9_order_2 : decode cX9_order 2 = .ok (.iload_n 2, 1) := by decide +kernel
theorem dX9_order_3 : decode cX9_order 3 = .ok (.iload_n 3, 1) := by decide +kernel
theorem dX9_order_4 : decode cX9_order 4 = .ok (.invokevirtual 162, 3) := by decide +kernel
theorem dX9_order_7 : decode cX9_order 7 = .ok (.istore 5, 2) := by decide +kernel
theorem dX9_order_9 : decode cX9_order 9 = .ok (.iload 5, 2) := by decide +kernel
theorem dX9_order_11 : decode cX9_order 11 = .ok (.ifCond .eq 6, 3) := by decide +kernel
theorem dX9_order_14 : decode cX9_order 14 = .ok (.iload 5, 2) := by decide +kernel
theorem dX9_order_16 : decode cX9_order 16 = .ok (.ireturn, 1) := by decide +kernel
theorem dX9_order_17 : decode cX9_order 17 = .ok (.aload_n 0, 1) := by decide +kernel
theorem dX9_order_18 : decode cX9_order 18 = .ok (.getfield 12, 3) := by decide +kernel
theorem dX9_order_21 : decode cX9_order 21 = .ok (.getfield 165, 3) := by decide +kernel
theorem dX9_order_24 : decode cX9_order 24 = .ok (.getfield 169, 3) := by decide +kernel
theorem dX9_order_27 : decode cX9_order 27 = .ok (.bipush 30, 2) := by decide +kernel
theorem dX9_order_29 : decode cX9_order 29 = .ok (.if_icmp .lt 6, 3) := by decide +kernel
theorem dX9_order_32 : decode cX9_order 32 = .ok (.bipush (-3), 2) := by decide +kernel
theorem dX9_order_34 : decode cX9_order 34 = .ok (.ireturn, 1) := by decide +kernel
theorem dX9_order_35 : decode cX9_order 35 = .ok (.aload_n 0, 1) := by decide +kernel
theorem dX9_order_36 : decode cX9_order 36 = .ok (.getfield 25, 3) := by decide +kernel
theorem dX9_order_39 : decode cX9_order 39 = .ok (.aload_n 0, 1) := by decide +kernel
theorem dX9_order_40 : decode cX9_order 40 = .ok (.getfield 12, 3) := by decide +kernel
theorem dX9_order_43 : decode cX9_order 43 = .ok (.invokevirtual 61, 3) := by decide +kernel
theorem dX9_order_46 : decode cX9_order 46 = .ok (.aload_n 0, 1) := by decide +kernel
theorem dX9_order_47 : decode cX9_order 47 = .ok (.getfield 12, 3) := by decide +kernel
theorem dX9_order_50 : decode cX9_order 50 = .ok (.getfield 165, 3) := by decide +kernel
theorem dX9_order_53 : decode cX9_order 53 = .ok (.iload_n 1, 1) := by decide +kernel
theorem dX9_order_54 : decode cX9_order 54 = .ok (.iload_n 2, 1) := by decide +kernel
theorem dX9_order_55 : decode cX9_order 55 = .ok (.iload_n 3, 1) := by decide +kernel
theorem dX9_order_56 : decode cX9_order 56 = .ok (.iload 4, 2) := by decide +kernel
theorem dX9_order_58 : decode cX9_order 58 = .ok (.aload_n 0, 1) := by decide +kernel
theorem dX9_order_59 : decode cX9_order 59 = .ok (.getfield 12, 3) := by decide +kernel
theorem dX9_order_62 : decode cX9_order 62 = .ok (.getfield 172, 3) := by decide +kernel
theorem dX9_order_65 : decode cX9_order 65 = .ok (.invokevirtual 175, 3) := by decide +kernel
theorem dX9_order_68 : decode cX9_order 68 = .ok (.aload_n 0, 1) := by decide +kernel
theorem dX9_order_69 : decode cX9_order 69 = .ok (.getfield 32, 3) := by decide +kernel
theorem dX9_order_72 : decode cX9_order 72 = .ok (.aload_n 0, 1) := by decide +kernel
theorem dX9_order_73 : decode cX9_order 73 = .ok (.getfield 12, 3) := by decide +kernel
theorem dX9_order_76 : decode cX9_order 76 = .ok (.iload_n 1, 1) := by decide +kernel
theorem dX9_order_77 : decode cX9_order 77 = .ok (.iload_n 2, 1) := by decide +kernel
theorem dX9_order_78 : decode cX9_order 78 = .ok (.iload_n 3, 1) := by decide +kernel
theorem dX9_order_79 : decode cX9_order 79 = .ok (.iload 4, 2) := by decide +kernel
theorem dX9_order_81 : decode cX9_order 81 = .ok (.invokevirtual 178, 3) := by decide +kernel
theorem dX9_order_84 : decode cX9_order 84 = .ok (.aload_n 0, 1) := by decide +kernel
theorem dX9_order_85 : decode cX9_order 85 = .ok (.getfield 12, 3) := by decide +kernel
theorem dX9_order_88 : decode cX9_order 88 = .ok (.aload_n 0, 1) := by decide +kernel
theorem dX9_order_89 : decode cX9_order 89 = .ok (.getfield 32, 3) := by decide +kernel
theorem dX9_order_92 : decode cX9_order 92 = .ok (.invokevirtual 182, 3) := by decide +kernel
theorem dX9_order_95 : decode cX9_order 95 = .ok (.aload_n 0, 1) := by decide +kernel
theorem dX9_order_96 : decode cX9_order 96 = .ok (.getfield 32, 3) := by decide +kernel
theorem dX9_order_99 : decode cX9_order 99 = .ok (.getfield 186, 3) := by decide +kernel
theorem dX9_order_102 : decode cX9_order 102 = .ok (.ireturn, 1) := by decide +kernel
set_option maxRecDepth 20000 in
theorem ggX9_recall_X9_hasGood : GoodIn wsX9_recall wsX9_hasGood := goodIn_r _ [9, 1, 10, 11, 12, 13, 8, 14, 128, 129, 130, 131, 132, 133, 134, 135, 136, 137, 138, 139, 140, 141, 142, 143, 144, 154, 155, 156, 157, 158] (by decide +kernel) (by decide +kernel)
set_option maxRecDepth 20000 in
theorem gX9_recall_X9_hasGood : GoodIn wsX9_recall (wsV RX9 69 RX9 yX9_hasGood wsX9_hasGood) := goodIn_app (goodIn_of _ (by decide +kernel)) ggX9_recall_X9_hasGood
set_option maxRecDepth 20000 in
theorem ggX9_recall_X0_sumOfGood : GoodIn wsX9_recall wsX0_sumOfGood := goodIn_r _ [19, 20, 21, 145, 146, 147, 148, 149, 150, 151, 152, 153] (by decide +kernel) (by decide +kernel)
set_option maxRecDepth 20000 in
theorem gX9_recall_X0_sumOfGood : GoodIn wsX9_recall (wsV RX9 198 RX0 yX0_sumOfGood wsX0_sumOfGood) := goodIn_app (goodIn_of _ (by decide +kernel)) ggX9_recall_X0_sumOfGood
set_option maxRecDepth 20000 in
theorem ggX9_recall_X4_push : GoodIn wsX9_recall wsX4_push := goodIn_r _ [26, 27, 28, 29, 30, 31, 32, 33, 34, 35, 36, 37, 38, 39, 40, 41, 42, 43, 44, 45, 46, 47, 48, 49, 50, 51, 52, 53, 8, 54, 55, 56, 57, 58, 59, 60, 61, 62, 63, 64, 65, 18, 66, 20, 21, 67, 68, 69, 70, 71, 72, 73, 74, 75, 76, 77, 78, 79, 80, 81, 82, 83, 84, 85, 86, 87, 88, 89, 90, 91, 92, 93, 94, 95, 96, 97, 98, 99, 100, 101, 102, 103, 104, 105, 106, 107, 108, 109, 110, 159, 160, 161, 137, 138, 139, 140, 141, 142, 143, 144, 154, 155, 156, 157, 158, 145, 146, 147, 148, 149, 150, 151, 152, 153, 162, 163, 164, 165, 166, 167, 168, 169, 170, 171, 172, 173, 174, 175, 176, 177, 178, 179, 180, 181, 182, 183] (by decide +kernel) (by decide +kernel)
set_option maxRecDepth 20000 in
theorem gX9_recall_X4_push : GoodIn wsX9_recall (wsV RX9 61 RX4 yX4_push wsX4_push) := goodIn_app (goodIn_of _ (by decide +kernel)) ggX9_recall_X4_push
set_option maxRecDepth 20000 in
theorem ggX9_recall_X8_wasteGood : GoodIn wsX9_recall wsX8_wasteGood := goodIn_r _ [114, 36, 115, 116, 117, 118, 119, 120, 33, 121, 122, 39, 42, 123, 124, 125, 103, 126, 107, 106, 108, 109, 110, 105, 127, 56, 57, 58, 137, 138, 139, 140, 141, 142, 143, 144, 145, 146, 147, 148, 149, 150, 151, 152, 153, 178, 179, 180, 181, 182, 183] (by decide +kernel) (by decide +kernel)
set_option maxRecDepth 20000 in
theorem gX9_recall_X8_wasteGood : GoodIn wsX9_recall (wsV RX9 202 RX8 yX8_wasteGood wsX8_wasteGood) := goodIn_app (goodIn_of _ (by decide +kernel)) ggX9_recall_X8_wasteGood
theorem dX9_recall_0 : decode cX9_recall 0 = .ok (.aload_n 0, 1) := by decide +kernel
theorem dX9_recall_1 : decode cX9_recall 1 = .ok (.iload_n 1, 1) := by decide +kernel
theorem dX9_recall_2 : decode cX9_recall 2 = .ok (.invokevirtual 69, 3) := by decide +kernel
theorem dX9_recall_5 : decode cX9_recall 5 = .ok (.ifCond .ne 5, 3) := by decide +kernel
theorem dX9_recall_8 : decode cX9_recall 8 = .ok (.iconst (-1), 1) := by decide +kernel
theorem dX9_recall_9 : decode cX9_recall 9 = .ok (.ireturn, 1) := by decide +kernel
theorem dX9_recall_10 : decode cX9_recall 10 = .ok (.aload_n 0, 1) := by decide +kernel
theorem dX9_recall_11 : decode cX9_recall 11 = .ok (.getfield 12, 3) := by decide +kernel
theorem dX9_recall_14 : decode cX9_recall 14 = .ok (.getfield 129, 3) := by decide +kernel
theorem dX9_recall_17 : decode cX9_recall 17 = .ok (.aload_n 0, 1) := by decide +kernel
theorem dX9_recall_18 : decode cX9_recall 18 = .ok (.getfield 12, 3) := by decide +kernel
theorem dX9_recall_21 : decode cX9_recall 21 = .ok (.getfield 129, 3) := by decide +kernel
theorem dX9_recall_24 : decode cX9_recall 24 = .ok (.getfield 192, 3) := by decide +kernel
theorem dX9_recall_27 : decode cX9_recall 27 = .ok (.iload_n 1, 1) := by decide +kernel
theorem dX9_recall_28 : decode cX9_recall 28 = .ok (.invokevirtual 198, 3) := by decide +kernel
theorem dX9_recall_31 : decode cX9_recall 31 = .ok (.istore_n 2, 1) := by decide +kernel
theorem dX9_recall_32 : decode cX9_recall 32 = .ok (.iload_n 2, 1) := by decide +kernel
theorem dX9_recall_33 : decode cX9_recall 33 = .ok (.ifCond .ne 6, 3) := by decide +kernel
theorem dX9_recall_36 : decode cX9_recall 36 = .ok (.bipush (-5), 2) := by decide +kernel
theorem dX9_recall_38 : decode cX9_recall 38 = .ok (.ireturn, 1) := by decide +kernel
theorem dX9_recall_39 : decode cX9_recall 39 = .ok (.aload_n 0, 1) := by decide +kernel
theorem dX9_recall_40 : decode cX9_recall 40 = .ok (.getfield 25, 3) := by decide +kernel
theorem dX9_recall_43 : decode cX9_recall 43 = .ok (.aload_n 0, 1) := by decide +kernel
theorem dX9_recall_44 : decode cX9_recall 44 = .ok (.getfield 12, 3) := by decide +kernel
theorem dX9_recall_47 : decode cX9_recall 47 = .ok (.invokevirtual 61, 3) := by decide +kernel
theorem dX9_recall_50 : decode cX9_recall 50 = .ok (.aload_n 0, 1) := by decide +kernel
theorem dX9_recall_51 : decode cX9_recall 51 = .ok (.getfield 12, 3) := by decide +kernel
theorem dX9_recall_54 : decode cX9_recall 54 = .ok (.iload_n 1, 1) := by decide +kernel
theorem dX9_recall_55 : decode cX9_recall 55 = .ok (.invokevirtual 202, 3) := by decide +kernel
theorem dX9_recall_58 : decode cX9_recall 58 = .ok (.iload_n 2, 1) := by decide +kernel
theorem dX9_recall_59 : decode cX9_recall 59 = .ok (.ireturn, 1) := by decide +kernel
set_option maxRecDepth 20000 in
theorem ggX9_pass_X9_within : GoodIn wsX9_pass wsX9_within := goodIn_r _ [7] (by decide +kernel) (by decide +kernel)
set_option maxRecDepth 20000 in
theorem gX9_pass_X9_within : GoodIn wsX9_pass (va_wsS RX9 47 yX9_within wsX9_within) := goodIn_app (goodIn_of _ (by decide +kernel)) ggX9_pass_X9_within
set_option maxRecDepth 20000 in
theorem ggX9_pass_X4_push : GoodIn wsX9_pass wsX4_push := goodIn_r _ [12, 13, 14, 15, 16, 17, 18, 19, 20, 21, 22, 23, 24, 25, 26, 27, 28, 29, 30, 31, 32, 33, 34, 35, 36, 37, 38, 39, 6, 40, 41, 42, 43, 44, 45, 46, 47, 48, 49, 50, 51, 52, 53, 54, 55, 56, 57, 58, 59, 60, 61, 62, 63, 64, 65, 66, 67, 68, 69, 70, 71, 72, 73, 74, 75, 76, 77, 78, 79, 80, 81, 82, 83, 84, 85, 86, 87, 88, 89, 90, 91, 92, 93, 94, 95, 96, 97, 98, 99, 162, 163, 164, 154, 155, 156, 157, 158, 159, 160, 161, 165, 166, 167, 168, 169, 170, 171, 172, 173, 174, 175, 176, 177, 178, 179, 180, 181, 182, 183, 184, 185, 186, 187, 188, 189, 190, 191, 192, 193, 194, 195, 196, 197, 198, 199, 200] (by decide +kernel) (by decide +kernel)
set_option maxRecDepth 20000 in
theorem gX9_pass_X4_push : GoodIn wsX9_pass (wsV RX9 61 RX4 yX4_push wsX4_push) := goodIn_app (goodIn_of _ (by decide +kernel)) ggX9_pass_X4_push
set_option maxRecDepth 20000 in
theorem ggX9_pass_X8_passDays : GoodIn wsX9_pass wsX8_passDays := goodIn_r _ [103, 28, 22, 104, 105, 106, 52, 107, 54, 58, 57, 108, 109, 110, 19, 111, 112, 113, 114, 115, 116, 117, 118, 119, 25, 120, 121, 122, 92, 123, 96, 95, 97, 98, 99, 94, 124, 42, 43, 44, 125, 126, 127, 128, 26, 129, 130, 131, 132, 133, 24, 21, 134, 135, 136, 137, 138, 85, 139, 87, 140, 141, 142, 143, 144, 154, 155, 156, 157, 158, 159, 160, 161, 170, 171, 172, 173, 174, 175, 176, 177, 178, 195, 196, 197, 198, 199, 200, 165, 166, 167, 168, 169, 193, 194] (by decide +kernel) (by decide +kernel)
set_option maxRecDepth 20000 in
theorem gX9_pass_X8_passDays : GoodIn wsX9_pass (wsV RX9 206 RX8 yX8_passDays wsX8_passDays) := goodIn_app (goodIn_of _ (by decide +kernel)) ggX9_pass_X8_passDays
theorem dX9_pass_0 : decode cX9_pass 0 = .ok (.iload_n 1, 1) := by decide +kernel
theorem dX9_pass_1 : decode cX9_pass 1 = .ok (.iconst 1, 1) := by decide +kernel
theorem dX9_pass_2 : decode cX9_pass 2 = .ok (.bipush 60, 2) := by decide +kernel
theorem dX9_pass_4 : decode cX9_pass 4 = .ok (.invokestatic 47, 3) := by decide +kernel
theorem dX9_pass_7 : decode cX9_pass 7 = .ok (.ifCond .ne 6, 3) := by decide +kernel
theorem dX9_pass_10 : decode cX9_pass 10 = .ok (.bipush (-2), 2) := by decide +kernel
theorem dX9_pass_12 : decode cX9_pass 12 = .ok (.ireturn, 1) := by decide +kernel
theorem dX9_pass_13 : decode cX9_pass 13 = .ok (.aload_n 0, 1) := by decide +kernel
theorem dX9_pass_14 : decode cX9_pass 14 = .ok (.getfield 12, 3) := by decide +kernel
theorem dX9_pass_17 : decode cX9_pass 17 = .ok (.getfield 172, 3) := by decide +kernel
theorem dX9_pass_20 : decode cX9_pass 20 = .ok (.iload_n 1, 1) := by decide +kernel
theorem dX9_pass_21 : decode cX9_pass 21 = .ok (.iadd, 1) := by decide +kernel
theorem dX9_pass_22 : decode cX9_pass 22 = .ok (.sipush 9999, 3) := by decide +kernel
theorem dX9_pass_25 : decode cX9_pass 25 = .ok (.if_icmp .le 6, 3) := by decide +kernel
theorem dX9_pass_28 : decode cX9_pass 28 = .ok (.bipush (-4), 2) := by decide +kernel
theorem dX9_pass_30 : decode cX9_pass 30 = .ok (.ireturn, 1) := by decide +kernel
theorem dX9_pass_31 : decode cX9_pass 31 = .ok (.aload_n 0, 1) := by decide +kernel
theorem dX9_pass_32 : decode cX9_pass 32 = .ok (.getfield 25, 3) := by decide +kernel
theorem dX9_pass_35 : decode cX9_pass 35 = .ok (.aload_n 0, 1) := by decide +kernel
theorem dX9_pass_36 : decode cX9_pass 36 = .ok (.getfield 12, 3) := by decide +kernel
theorem dX9_pass_39 : decode cX9_pass 39 = .ok (.invokevirtual 61, 3) := by decide +kernel
theorem dX9_pass_42 : decode cX9_pass 42 = .ok (.aload_n 0, 1) := by decide +kernel
theorem dX9_pass_43 : decode cX9_pass 43 = .ok (.getfield 12, 3) := by decide +kernel
theorem dX9_pass_46 : decode cX9_pass 46 = .ok (.iload_n 1, 1) := by decide +kernel
theorem dX9_pass_47 : decode cX9_pass 47 = .ok (.invokevirtual 206, 3) := by decide +kernel
theorem dX9_pass_50 : decode cX9_pass 50 = .ok (.ireturn, 1) := by decide +kernel
set_option maxRecDepth 20000 in
theorem ggX9_undo_X4_popInto : GoodIn wsX9_undo wsX4_popInto := goodIn_r _ [8, 9, 10, 11, 12, 13, 14, 15, 16, 17, 18, 19, 20, 21, 22, 23, 24, 25, 26, 27, 28, 29, 30, 31, 32, 33, 34, 35, 36, 37, 38, 39, 40, 41, 42, 43, 44, 45, 46, 47, 48, 49, 50, 51, 52, 53, 54, 55, 56, 57, 58, 59, 60, 61, 62, 63, 64, 65, 66, 67, 68, 69, 70, 71, 72, 73, 74, 75, 76, 77, 78, 79, 80, 81, 82, 83, 84, 85, 86, 87, 88, 89, 90, 91, 92, 93, 94, 95, 96, 106, 107, 108, 109, 110, 111, 112, 113, 114, 115, 116, 117, 118, 119, 120, 121, 122, 123, 124, 125, 126, 127, 128, 129, 130, 131, 132, 133, 134, 135, 136, 137, 138, 139, 140, 141, 142, 143, 144, 145, 146, 147, 148, 149, 150, 151, 152] (by decide +kernel) (by decide +kernel)
set_option maxRecDepth 20000 in
theorem gX9_undo_X4_popInto : GoodIn wsX9_undo (wsV RX9 210 RX4 yX4_popInto wsX4_popInto) := goodIn_app (goodIn_of _ (by decide +kernel)) ggX9_undo_X4_popInto
theorem dX9_undo_0 : decode cX9_undo 0 = .ok (.aload_n 0, 1) := by decide +kernel
theorem dX9_undo_1 : decode cX9_undo 1 = .ok (.getfield 25, 3) := by decide +kernel
theorem dX9_undo_4 : decode cX9_undo 4 = .ok (.getfield 209, 3) := by decide +kernel
theorem dX9_undo_7 : decode cX9_undo 7 = .ok (.ifCond .ne 6, 3) := by decide +kernel
theorem dX9_undo_10 : decode cX9_undo 10 = .ok (.bipush (-5), 2) := by decide +kernel
theorem dX9_undo_12 : decode cX9_undo 12 = .ok (.ireturn, 1) := by decide +kernel
theorem dX9_undo_13 : decode cX9_undo 13 = .ok (.aload_n 0, 1) := by decide +kernel
theorem dX9_undo_14 : decode cX9_undo 14 = .ok (.getfield 25, 3) := by decide +kernel
theorem dX9_undo_17 : decode cX9_undo 17 = .ok (.aload_n 0, 1) := by decide +kernel
theorem dX9_undo_18 : decode cX9_undo 18 = .ok (.getfield 12, 3) := by decide +kernel
theorem dX9_undo_21 : decode cX9_undo 21 = .ok (.invokevirtual 210, 3) := by decide +kernel
theorem dX9_undo_24 : decode cX9_undo 24 = .ok (.aload_n 0, 1) := by decide +kernel
theorem dX9_undo_25 : decode cX9_undo 25 = .ok (.getfield 25, 3) := by decide +kernel
theorem dX9_undo_28 : decode cX9_undo 28 = .ok (.getfield 209, 3) := by decide +kernel
theorem dX9_undo_31 : decode cX9_undo 31 = .ok (.ireturn, 1) := by decide +kernel
set_option maxRecDepth 20000 in
theorem ggX9_good_X9_hasGood : GoodIn wsX9_good wsX9_hasGood := goodIn_r _ [14, 1, 3, 15, 16, 17, 13, 18, 38, 39, 40, 41, 42, 43, 44, 45, 46, 47, 48, 49, 50, 51, 52, 53, 54, 55, 56, 57, 58, 59] (by decide +kernel) (by decide +kernel)
set_option maxRecDepth 20000 in
theorem gX9_good_X9_hasGood : GoodIn wsX9_good (wsV RX9 69 RX9 yX9_hasGood wsX9_hasGood) := goodIn_app (goodIn_of _ (by decide +kernel)) ggX9_good_X9_hasGood
set_option maxRecDepth 20000 in
theorem ggX9_good_X0_sumOfGood : GoodIn wsX9_good wsX0_sumOfGood := goodIn_r _ [23, 24, 25, 60, 61, 62, 63, 64, 65, 66, 67, 68] (by decide +kernel) (by decide +kernel)
set_option maxRecDepth 20000 in
theorem gX9_good_X0_sumOfGood : GoodIn wsX9_good (wsV RX9 198 RX0 yX0_sumOfGood wsX0_sumOfGood) := goodIn_app (goodIn_of _ (by decide +kernel)) ggX9_good_X0_sumOfGood
set_option maxRecDepth 20000 in
theorem ggX9_good_X0_countOfGood : GoodIn wsX9_good wsX0_countOfGood := goodIn_r _ [29, 24, 25, 60, 61, 62, 63, 64, 65, 66, 67, 68] (by decide +kernel) (by decide +kernel)
set_option maxRecDepth 20000 in
theorem gX9_good_X0_countOfGood : GoodIn wsX9_good (wsV RX9 223 RX0 yX0_countOfGood wsX0_countOfGood) := goodIn_app (goodIn_of _ (by decide +kernel)) ggX9_good_X0_countOfGood
set_option maxRecDepth 20000 in
theorem ggX9_good_X6_gotForGood : GoodIn wsX9_good wsX6_gotForGood := goodIn_r _ [34, 35, 36, 37, 69, 70, 71, 72, 73, 74, 75, 76, 77, 78, 79, 80, 81, 82] (by decide +kernel) (by decide +kernel)
set_option maxRecDepth 20000 in
theorem gX9_good_X6_gotForGood : GoodIn wsX9_good (wsV RX9 229 RX6 yX6_gotForGood wsX6_gotForGood) := goodIn_app (goodIn_of _ (by decide +kernel)) ggX9_good_X6_gotForGood
theorem dX9_good_0 : decode cX9_good 0 = .ok (.aload_n 0, 1) := by decide +kernel
theorem dX9_good_1 : decode cX9_good 1 = .ok (.iload_n 1, 1) := by decide +kernel
theorem dX9_good_2 : decode cX9_good 2 = .ok (.invokevirtual 69, 3) := by decide +kernel
theorem dX9_good_5 : decode cX9_good 5 = .ok (.ifCond .ne 5, 3) := by decide +kernel
theorem dX9_good_8 : decode cX9_good 8 = .ok (.iconst (-1), 1) := by decide +kernel
theorem dX9_good_9 : decode cX9_good 9 = .ok (.ireturn, 1) := by decide +kernel
theorem dX9_good_10 : decode cX9_good 10 = .ok (.aload_n 0, 1) := by decide +kernel
theorem dX9_good_11 : decode cX9_good 11 = .ok (.getfield 12, 3) := by decide +kernel
theorem dX9_good_14 : decode cX9_good 14 = .ok (.getfield 129, 3) := by decide +kernel
theorem dX9_good_17 : decode cX9_good 17 = .ok (.astore_n 3, 1) := by decide +kernel
theorem dX9_good_18 : decode cX9_good 18 = .ok (.iload_n 2, 1) := by decide +kernel
theorem dX9_good_19 : decode cX9_good 19 = .ok (.tableswitch 118 0 6 #[41, 54, 67, 80, 90, 96, 106], 41) := by decide +kernel
theorem dX9_good_60 : decode cX9_good 60 = .ok (.aload_n 0, 1) := by decide +kernel
theorem dX9_good_61 : decode cX9_good 61 = .ok (.getfield 12, 3) := by decide +kernel
theorem dX9_good_64 : decode cX9_good 64 = .ok (.getfield 51, 3) := by decide +kernel
theorem dX9_good_67 : decode cX9_good 67 = .ok (.getfield 73, 3) := by decide +kernel
theorem dX9_good_70 : decode cX9_good 70 = .ok (.iload_n 1, 1) := by decide +kernel
theorem dX9_good_71 : decode cX9_good 71 = .ok (.iaload, 1) := by decide +kernel
theorem dX9_good_72 : decode cX9_good 72 = .ok (.ireturn, 1) := by decide +kernel
theorem dX9_good_73 : decode cX9_good 73 = .ok (.aload_n 0, 1) := by decide +kernel
theorem dX9_good_74 : decode cX9_good 74 = .ok (.getfield 12, 3) := by decide +kernel
theorem dX9_good_77 : decode cX9_good 77 = .ok (.getfield 51, 3) := by decide +kernel
theorem dX9_good_80 : decode cX9_good 80 = .ok (.getfield 220, 3) := by decide +kernel
theorem dX9_good_83 : decode cX9_good 83 = .ok (.iload_n 1, 1) := by decide +kernel
theorem dX9_good_84 : decode cX9_good 84 = .ok (.iaload, 1) := by decide +kernel
theorem dX9_good_85 : decode cX9_good 85 = .ok (.ireturn, 1) := by decide +kernel
theorem dX9_good_86 : decode cX9_good 86 = .ok (.aload_n 0, 1) := by decide +kernel
theorem dX9_good_87 : decode cX9_good 87 = .ok (.getfield 12, 3) := by decide +kernel
theorem dX9_good_90 : decode cX9_good 90 = .ok (.getfield 51, 3) := by decide +kernel
theorem dX9_good_93 : decode cX9_good 93 = .ok (.getfield 77, 3) := by decide +kernel
theorem dX9_good_96 : decode cX9_good 96 = .ok (.iload_n 1, 1) := by decide +kernel
theorem dX9_good_97 : decode cX9_good 97 = .ok (.iaload, 1) := by decide +kernel
theorem dX9_good_98 : decode cX9_good 98 = .ok (.ireturn, 1) := by decide +kernel
theorem dX9_good_99 : decode cX9_good 99 = .ok (.aload_n 3, 1) := by decide +kernel
theorem dX9_good_100 : decode cX9_good 100 = .ok (.aload_n 3, 1) := by decide +kernel
theorem dX9_good_101 : decode cX9_good 101 = .ok (.getfield 192, 3) := by decide +kernel
theorem dX9_good_104 : decode cX9_good 104 = .ok (.iload_n 1, 1) := by decide +kernel
theorem dX9_good_105 : decode cX9_good 105 = .ok (.invokevirtual 198, 3) := by decide +kernel
theorem dX9_good_108 : decode cX9_good 108 = .ok (.ireturn, 1) := by decide +kernel
theorem dX9_good_109 : decode cX9_good 109 = .ok (.aload_n 3, 1) := by decide +kernel
theorem dX9_good_110 : decode cX9_good 110 = .ok (.iload_n 1, 1) := by decide +kernel
theorem dX9_good_111 : decode cX9_good 111 = .ok (.invokevirtual 223, 3) := by decide +kernel
theorem dX9_good_114 : decode cX9_good 114 = .ok (.ireturn, 1) := by decide +kernel
theorem dX9_good_115 : decode cX9_good 115 = .ok (.aload_n 3, 1) := by decide +kernel
theorem dX9_good_116 : decode cX9_good 116 = .ok (.aload_n 3, 1) := by decide +kernel
theorem dX9_good_117 : decode cX9_good 117 = .ok (.getfield 226, 3) := by decide +kernel
theorem dX9_good_120 : decode cX9_good 120 = .ok (.iload_n 1, 1) := by decide +kernel
theorem dX9_good_121 : decode cX9_good 121 = .ok (.invokevirtual 198, 3) := by decide +kernel
theorem dX9_good_124 : decode cX9_good 124 = .ok (.ireturn, 1) := by decide +kernel
theorem dX9_good_125 : decode cX9_good 125 = .ok (.aload_n 0, 1) := by decide +kernel
theorem dX9_good_126 : decode cX9_good 126 = .ok (.getfield 12, 3) := by decide +kernel
theorem dX9_good_129 : decode cX9_good 129 = .ok (.getfield 165, 3) := by decide +kernel
theorem dX9_good_132 : decode cX9_good 132 = .ok (.iload_n 1, 1) := by decide +kernel
theorem dX9_good_133 : decode cX9_good 133 = .ok (.invokevirtual 229, 3) := by decide +kernel
theorem dX9_good_136 : decode cX9_good 136 = .ok (.ireturn, 1) := by decide +kernel
theorem dX9_good_137 : decode cX9_good 137 = .ok (.bipush (-2), 2) := by decide +kernel
theorem dX9_good_139 : decode cX9_good 139 = .ok (.ireturn, 1) := by decide +kernel
set_option maxRecDepth 20000 in
theorem ggX9_substitute_X9_placeError : GoodIn wsX9_substitute wsX9_placeError := goodIn_r _ [7, 1, 2, 8, 9, 10, 11, 6, 12, 13, 14, 15, 16, 23, 24, 25, 26, 27, 28, 29, 30, 31, 32, 33, 34, 35, 36, 37, 38, 39, 40, 41, 42, 43, 44] (by decide +kernel) (by decide +kernel)
set_option maxRecDepth 20000 in
theorem gX9_substitute_X9_placeError : GoodIn wsX9_substitute (wsV RX9 88 RX9 yX9_placeError wsX9_placeError) := goodIn_app (goodIn_of _ (by decide +kernel)) ggX9_substitute_X9_placeError
set_option maxRecDepth 20000 in
theorem ggX9_substitute_X3_listedAt : GoodIn wsX9_substitute wsX3_listedAt := goodIn_r _ [21, 22, 40, 41, 42, 43, 44] (by decide +kernel) (by decide +kernel)
set_option maxRecDepth 20000 in
theorem gX9_substitute_X3_listedAt : GoodIn wsX9_substitute (wsV RX9 232 RX3 yX3_listedAt wsX3_listedAt) := goodIn_app (goodIn_of _ (by decide +kernel)) ggX9_substitute_X3_listedAt
theorem dX9_substitute_0 : decode cX9_substitute 0 = .ok (.aload_n 0, 1) := by decide +kernel
theorem dX9_substitute_1 : decode cX9_substitute 1 = .ok (.iload_n 1, 1) := by decide +kernel
theorem dX9_substitute_2 : decode cX9_substitute 2 = .ok (.iload_n 2, 1) := by decide +kernel
theorem dX9_substitute_3 : decode cX9_substitute 3 = .ok (.invokevirtual 88, 3) := by decide +kernel
theorem dX9_substitute_6 : decode cX9_substitute 6 = .ok (.istore_n 3, 1) := by decide +kernel
theorem dX9_substitute_7 : decode cX9_substitute 7 = .ok (.iload_n 3, 1) := by decide +kernel
theorem dX9_substitute_8 : decode cX9_substitute 8 = .ok (.ifCond .eq 5, 3) := by decide +kernel
theorem dX9_substitute_11 : decode cX9_substitute 11 = .ok (.iload_n 3, 1) := by decide +kernel
theorem dX9_substitute_12 : decode cX9_substitute 12 = .ok (.ireturn, 1) := by decide +kernel
theorem dX9_substitute_13 : decode cX9_substitute 13 = .ok (.aload_n 0, 1) := by decide +kernel
theorem dX9_substitute_14 : decode cX9_substitute 14 = .ok (.getfield 12, 3) := by decide +kernel
theorem dX9_substitute_17 : decode cX9_substitute 17 = .ok (.getfield 51, 3) := by decide +kernel
theorem dX9_substitute_20 : decode cX9_substitute 20 = .ok (.iload_n 1, 1) := by decide +kernel
theorem dX9_substitute_21 : decode cX9_substitute 21 = .ok (.iload_n 2, 1) := by decide +kernel
theorem dX9_substitute_22 : decode cX9_substitute 22 = .ok (.invokevirtual 232, 3) := by decide +kernel
theorem dX9_substitute_25 : decode cX9_substitute 25 = .ok (.ireturn, 1) := by decide +kernel
set_option maxRecDepth 20000 in
theorem ggX9_batch_X9_hasBatch : GoodIn wsX9_batch wsX9_hasBatch := goodIn_r _ [15, 1, 2, 16, 17, 18, 14, 19, 43, 44, 45, 46, 47, 48, 49, 50, 51, 52, 53, 54, 55, 56, 57, 58, 59, 60, 61, 62, 63, 64, 65, 66, 67, 68] (by decide +kernel) (by decide +kernel)
set_option maxRecDepth 20000 in
theorem gX9_batch_X9_hasBatch : GoodIn wsX9_batch (wsV RX9 189 RX9 yX9_hasBatch wsX9_hasBatch) := goodIn_app (goodIn_of _ (by decide +kernel)) ggX9_batch_X9_hasBatch
set_option maxRecDepth 20000 in
theorem ggX9_batch_X0_wastedOf : GoodIn wsX9_batch wsX0_wastedOf := goodIn_r _ [24, 25, 60, 61, 62, 63, 64, 65, 66, 67, 68] (by decide +kernel) (by decide +kernel)
set_option maxRecDepth 20000 in
theorem gX9_batch_X0_wastedOf : GoodIn wsX9_batch (wsV RX9 247 RX0 yX0_wastedOf wsX0_wastedOf) := goodIn_app (goodIn_of _ (by decide +kernel)) ggX9_batch_X0_wastedOf
set_option maxRecDepth 20000 in
theorem ggX9_batch_X8_stageOf : GoodIn wsX9_batch wsX8_stageOf := goodIn_r _ [30, 31, 32, 33, 34, 35, 36, 37, 38, 39, 40, 41, 42, 52, 53, 54, 55, 56, 57, 58, 59, 60, 61, 62, 63, 64, 65, 66, 67, 68, 69, 70, 71, 72, 73, 74, 75] (by decide +kernel) (by decide +kernel)
set_option maxRecDepth 20000 in
theorem gX9_batch_X8_stageOf : GoodIn wsX9_batch (wsV RX9 254 RX8 yX8_stageOf wsX8_stageOf) := goodIn_app (goodIn_of _ (by decide +kernel)) ggX9_batch_X8_stageOf
theorem dX9_batch_0 : decode cX9_batch 0 = .ok (.aload_n 0, 1) := by decide +kernel
theorem dX9_batch_1 : decode cX9_batch 1 = .ok (.iload_n 1, 1) := by decide +kernel
theorem dX9_batch_2 : decode cX9_batch 2 = .ok (.invokevirtual 189, 3) := by decide +kernel
theorem dX9_batch_5 : decode cX9_batch 5 = .ok (.ifCond .ne 5, 3) := by decide +kernel
theorem dX9_batch_8 : decode cX9_batch 8 = .ok (.iconst (-1), 1) := by decide +kernel
theorem dX9_batch_9 : decode cX9_batch 9 = .ok (.ireturn, 1) := by decide +kernel
theorem dX9_batch_10 : decode cX9_batch 10 = .ok (.aload_n 0, 1) := by decide +kernel
theorem dX9_batch_11 : decode cX9_batch 11 = .ok (.getfield 12, 3) := by decide +kernel
theorem dX9_batch_14 : decode cX9_batch 14 = .ok (.getfield 129, 3) := by decide +kernel
theorem dX9_batch_17 : decode cX9_batch 17 = .ok (.astore_n 3, 1) := by decide +kernel
theorem dX9_batch_18 : decode cX9_batch 18 = .ok (.iload_n 2, 1) := by decide +kernel
theorem dX9_batch_19 : decode cX9_batch 19 = .ok (.tableswitch 152 0 11 #[61, 68, 75, 82, 89, 96, 103, 109, 118, 127, 136, 145], 61) := by decide +kernel
theorem dX9_batch_80 : decode cX9_batch 80 = .ok (.aload_n 3, 1) := by decide +kernel
theorem dX9_batch_81 : decode cX9_batch 81 = .ok (.getfield 235, 3) := by decide +kernel
theorem dX9_batch_84 : decode cX9_batch 84 = .ok (.iload_n 1, 1) := by decide +kernel
theorem dX9_batch_85 : decode cX9_batch 85 = .ok (.iaload, 1) := by decide +kernel
theorem dX9_batch_86 : decode cX9_batch 86 = .ok (.ireturn, 1) := by decide +kernel
theorem dX9_batch_87 : decode cX9_batch 87 = .ok (.aload_n 3, 1) := by decide +kernel
theorem dX9_batch_88 : decode cX9_batch 88 = .ok (.getfield 238, 3) := by decide +kernel
theorem dX9_batch_91 : decode cX9_batch 91 = .ok (.iload_n 1, 1) := by decide +kernel
theorem dX9_batch_92 : decode cX9_batch 92 = .ok (.iaload, 1) := by decide +kernel
theorem dX9_batch_93 : decode cX9_batch 93 = .ok (.ireturn, 1) := by decide +kernel
theorem dX9_batch_94 : decode cX9_batch 94 = .ok (.aload_n 3, 1) := by decide +kernel
theorem dX9_batch_95 : decode cX9_batch 95 = .ok (.getfield 241, 3) := by decide +kernel
theorem dX9_batch_98 : decode cX9_batch 98 = .ok (.iload_n 1, 1) := by decide +kernel
theorem dX9_batch_99 : decode cX9_batch 99 = .ok (.iaload, 1) := by decide +kernel
theorem dX9_batch_100 : decode cX9_batch 100 = .ok (.ireturn, 1) := by decide +kernel
theorem dX9_batch_101 : decode cX9_batch 101 = .ok (.aload_n 3, 1) := by decide +kernel
theorem dX9_batch_102 : decode cX9_batch 102 = .ok (.getfield 192, 3) := by decide +kernel
theorem dX9_batch_105 : decode cX9_batch 105 = .ok (.iload_n 1, 1) := by decide +kernel
theorem dX9_batch_106 : decode cX9_batch 106 = .ok (.iaload, 1) := by decide +kernel
theorem dX9_batch_107 : decode cX9_batch 107 = .ok (.ireturn, 1) := by decide +kernel
theorem dX9_batch_108 : decode cX9_batch 108 = .ok (.aload_n 3, 1) := by decide +kernel
theorem dX9_batch_109 : decode cX9_batch 109 = .ok (.getfield 226, 3) := by decide +kernel
theorem dX9_batch_112 : decode cX9_batch 112 = .ok (.iload_n 1, 1) := by decide +kernel
theorem dX9_batch_113 : decode cX9_batch 113 = .ok (.iaload, 1) := by decide +kernel
theorem dX9_batch_114 : decode cX9_batch 114 = .ok (.ireturn, 1) := by decide +kernel
theorem dX9_batch_115 : decode cX9_batch 115 = .ok (.aload_n 3, 1) := by decide +kernel
theorem dX9_batch_116 : decode cX9_batch 116 = .ok (.getfield 244, 3) := by decide +kernel
theorem dX9_batch_119 : decode cX9_batch 119 = .ok (.iload_n 1, 1) := by decide +kernel
theorem dX9_batch_120 : decode cX9_batch 120 = .ok (.iaload, 1) := by decide +kernel
theorem dX9_batch_121 : decode cX9_batch 121 = .ok (.ireturn, 1) := by decide +kernel
theorem dX9_batch_122 : decode cX9_batch 122 = .ok (.aload_n 3, 1) := by decide +kernel
theorem dX9_batch_123 : decode cX9_batch 123 = .ok (.iload_n 1, 1) := by decide +kernel
theorem dX9_batch_124 : decode cX9_batch 124 = .ok (.invokevirtual 247, 3) := by decide +kernel
theorem dX9_batch_127 : decode cX9_batch 127 = .ok (.ireturn, 1) := by decide +kernel
theorem dX9_batch_128 : decode cX9_batch 128 = .ok (.aload_n 3, 1) := by decide +kernel
theorem dX9_batch_129 : decode cX9_batch 129 = .ok (.getfield 250, 3) := by decide +kernel
theorem dX9_batch_132 : decode cX9_batch 132 = .ok (.iconst 0, 1) := by decide +kernel
theorem dX9_batch_133 : decode cX9_batch 133 = .ok (.aaload, 1) := by decide +kernel
theorem dX9_batch_134 : decode cX9_batch 134 = .ok (.iload_n 1, 1) := by decide +kernel
theorem dX9_batch_135 : decode cX9_batch 135 = .ok (.iaload, 1) := by decide +kernel
theorem dX9_batch_136 : decode cX9_batch 136 = .ok (.ireturn, 1) := by decide +kernel
theorem dX9_batch_137 : decode cX9_batch 137 = .ok (.aload_n 3, 1) := by decide +kernel
theorem dX9_batch_138 : decode cX9_batch 138 = .ok (.getfield 250, 3) := by decide +kernel
theorem dX9_batch_141 : decode cX9_batch 141 = .ok (.iconst 1, 1) := by decide +kernel
theorem dX9_batch_142 : decode cX9_batch 142 = .ok (.aaload, 1) := by decide +kernel
theorem dX9_batch_143 : decode cX9_batch 143 = .ok (.iload_n 1, 1) := by decide +kernel
theorem dX9_batch_144 : decode cX9_batch 144 = .ok (.iaload, 1) := by decide +kernel
theorem dX9_batch_145 : decode cX9_batch 145 = .ok (.ireturn, 1) := by decide +kernel
theorem dX9_batch_146 : decode cX9_batch 146 = .ok (.aload_n 3, 1) := by decide +kernel
theorem dX9_batch_147 : decode cX9_batch 147 = .ok (.getfield 250, 3) := by decide +kernel
theorem dX9_batch_150 : decode cX9_batch 150 = .ok (.iconst 2, 1) := by decide +kernel
theorem dX9_batch_151 : decode cX9_batch 151 = .ok (.aaload, 1) := by decide +kernel
theorem dX9_batch_152 : decode cX9_batch 152 = .ok (.iload_n 1, 1) := by decide +kernel
theorem dX9_batch_153 : decode cX9_batch 153 = .ok (.iaload, 1) := by decide +kernel
theorem dX9_batch_154 : decode cX9_batch 154 = .ok (.ireturn, 1) := by decide +kernel
theorem dX9_batch_155 : decode cX9_batch 155 = .ok (.aload_n 0, 1) := by decide +kernel
theorem dX9_batch_156 : decode cX9_batch 156 = .ok (.getfield 12, 3) := by decide +kernel
theorem dX9_batch_159 : decode cX9_batch 159 = .ok (.iload_n 1, 1) := by decide +kernel
theorem dX9_batch_160 : decode cX9_batch 160 = .ok (.invokevirtual 254, 3) := by decide +kernel
theorem dX9_batch_163 : decode cX9_batch 163 = .ok (.ireturn, 1) := by decide +kernel
theorem dX9_batch_164 : decode cX9_batch 164 = .ok (.aload_n 3, 1) := by decide +kernel
theorem dX9_batch_165 : decode cX9_batch 165 = .ok (.getfield 257, 3) := by decide +kernel
theorem dX9_batch_168 : decode cX9_batch 168 = .ok (.iload_n 1, 1) := by decide +kernel
theorem dX9_batch_169 : decode cX9_batch 169 = .ok (.iaload, 1) := by decide +kernel
theorem dX9_batch_170 : decode cX9_batch 170 = .ok (.ireturn, 1) := by decide +kernel
theorem dX9_batch_171 : decode cX9_batch 171 = .ok (.bipush (-2), 2) := by decide +kernel
theorem dX9_batch_173 : decode cX9_batch 173 = .ok (.ireturn, 1) := by decide +kernel
set_option maxRecDepth 20000 in
theorem ggX9_unitPrice_X9_hasBatch : GoodIn wsX9_unitPrice wsX9_hasBatch := goodIn_r _ [6, 1, 7, 8, 9, 10, 5, 11, 40, 41, 42, 43, 44, 45, 46, 47, 48, 49, 50, 51, 52, 53, 54, 55, 56, 57, 58, 59, 60, 61, 62, 63, 64, 65] (by decide +kernel) (by decide +kernel)
set_option maxRecDepth 20000 in
theorem gX9_unitPrice_X9_hasBatch : GoodIn wsX9_unitPrice (wsV RX9 189 RX9 yX9_hasBatch wsX9_hasBatch) := goodIn_app (goodIn_of _ (by decide +kernel)) ggX9_unitPrice_X9_hasBatch
set_option maxRecDepth 20000 in
theorem ggX9_unitPrice_X9_notANumber : GoodIn wsX9_unitPrice wsX9_notANumber := goodIn_r _ [14, 15] (by decide +kernel) (by decide +kernel)
set_option maxRecDepth 20000 in
theorem gX9_unitPrice_X9_notANumber : GoodIn wsX9_unitPrice (va_wsS RX9 260 yX9_notANumber wsX9_notANumber) := goodIn_app (goodIn_of _ (by decide +kernel)) ggX9_unitPrice_X9_notANumber
set_option maxRecDepth 20000 in
theorem ggX9_unitPrice_X8_priceOfUnit : GoodIn wsX9_unitPrice wsX8_priceOfUnit := goodIn_r _ [20, 21, 22, 23, 24, 25, 26, 27, 28, 29, 30, 19, 31, 32, 33, 34, 35, 36, 37, 38, 39, 49, 50, 51, 52, 53, 54, 55, 56, 66, 67, 68, 69, 70, 57, 58, 59, 60, 61, 62, 63, 64, 65, 71, 72] (by decide +kernel) (by decide +kernel)
set_option maxRecDepth 20000 in
theorem gX9_unitPrice_X8_priceOfUnit : GoodIn wsX9_unitPrice (wsV RX9 264 RX8 yX8_priceOfUnit wsX8_priceOfUnit) := goodIn_app (goodIn_of _ (by decide +kernel)) ggX9_unitPrice_X8_priceOfUnit
theorem dX9_unitPrice_0 : decode cX9_unitPrice 0 = .ok (.aload_n 0, 1) := by decide +kernel
theorem dX9_unitPrice_1 : decode cX9_unitPrice 1 = .ok (.iload_n 1, 1) := by decide +kernel
theorem dX9_unitPrice_2 : decode cX9_unitPrice 2 = .ok (.invokevirtual 189, 3) := by decide +kernel
theorem dX9_unitPrice_5 : decode cX9_unitPrice 5 = .ok (.ifCond .ne 7, 3) := by decide +kernel
theorem dX9_unitPrice_8 : decode cX9_unitPrice 8 = .ok (.invokestatic 260, 3) := by decide +kernel
theorem dX9_unitPrice_11 : decode cX9_unitPrice 11 = .ok (.freturn, 1) := by decide +kernel
theorem dX9_unitPrice_12 : decode cX9_unitPrice 12 = .ok (.aload_n 0, 1) := by decide +kernel
theorem dX9_unitPrice_13 : decode cX9_unitPrice 13 = .ok (.getfield 12, 3) := by decide +kernel
theorem dX9_unitPrice_16 : decode cX9_unitPrice 16 = .ok (.iload_n 1, 1) := by decide +kernel
theorem dX9_unitPrice_17 : decode cX9_unitPrice 17 = .ok (.invokevirtual 264, 3) := by decide +kernel
theorem dX9_unitPrice_20 : decode cX9_unitPrice 20 = .ok (.freturn, 1) := by decide +kernel
set_option maxRecDepth 20000 in
theorem ggX9_markdown_X9_isStage : GoodIn wsX9_markdown wsX9_isStage := goodIn_r _ [7, 8, 9, 6, 10] (by decide +kernel) (by decide +kernel)
set_option maxRecDepth 20000 in
theorem gX9_markdown_X9_isStage : GoodIn wsX9_markdown (va_wsS RX9 267 yX9_isStage wsX9_isStage) := goodIn_app (goodIn_of _ (by decide +kernel)) ggX9_markdown_X9_isStage
set_option maxRecDepth 20000 in
theorem ggX9_markdown_X9_notANumber : GoodIn wsX9_markdown wsX9_notANumber := goodIn_r _ [13, 14] (by decide +kernel) (by decide +kernel)
set_option maxRecDepth 20000 in
theorem gX9_markdown_X9_notANumber : GoodIn wsX9_markdown (va_wsS RX9 260 yX9_notANumber wsX9_notANumber) := goodIn_app (goodIn_of _ (by decide +kernel)) ggX9_markdown_X9_notANumber
theorem dX9_markdown_0 : decode cX9_markdown 0 = .ok (.iload_n 1, 1) := by decide +kernel
theorem dX9_markdown_1 : decode cX9_markdown 1 = .ok (.invokestatic 267, 3) := by decide +kernel
theorem dX9_markdown_4 : decode cX9_markdown 4 = .ok (.ifCond .ne 7, 3) := by decide +kernel
theorem dX9_markdown_7 : decode cX9_markdown 7 = .ok (.invokestatic 260, 3) := by decide +kernel
theorem dX9_markdown_10 : decode cX9_markdown 10 = .ok (.freturn, 1) := by decide +kernel
theorem dX9_markdown_11 : decode cX9_markdown 11 = .ok (.aload_n 0, 1) := by decide +kernel
theorem dX9_markdown_12 : decode cX9_markdown 12 = .ok (.getfield 12, 3) := by decide +kernel
theorem dX9_markdown_15 : decode cX9_markdown 15 = .ok (.getfield 94, 3) := by decide +kernel
theorem dX9_markdown_18 : decode cX9_markdown 18 = .ok (.getfield 111, 3) := by decide +kernel
theorem dX9_markdown_21 : decode cX9_markdown 21 = .ok (.iload_n 1, 1) := by decide +kernel
theorem dX9_markdown_22 : decode cX9_markdown 22 = .ok (.faload, 1) := by decide +kernel
theorem dX9_markdown_23 : decode cX9_markdown 23 = .ok (.freturn, 1) := by decide +kernel
set_option maxRecDepth 20000 in
theorem ggX9_stage_X9_isStage : GoodIn wsX9_stage wsX9_isStage := goodIn_r _ [7, 8, 9, 6, 10] (by decide +kernel) (by decide +kernel)
set_option maxRecDepth 20000 in
theorem gX9_stage_X9_isStage : GoodIn wsX9_stage (va_wsS RX9 267 yX9_isStage wsX9_isStage) := goodIn_app (goodIn_of _ (by decide +kernel)) ggX9_stage_X9_isStage
set_option maxRecDepth 20000 in
theorem ggX9_stage_X8_batchesInStage : GoodIn wsX9_stage wsX8_batchesInStage := goodIn_r _ [15, 16, 17, 18, 19, 20, 14, 21, 22, 23, 24, 25, 26, 27, 28, 29, 30, 31, 32, 33, 34, 35, 36, 37, 51, 52, 53, 54, 55, 56, 57, 58, 61, 62, 63, 64, 65, 66, 67, 68, 69, 70, 71, 72, 73, 74, 59, 60] (by decide +kernel) (by decide +kernel)
set_option maxRecDepth 20000 in
theorem gX9_stage_X8_batchesInStage : GoodIn wsX9_stage (wsV RX9 270 RX8 yX8_batchesInStage wsX8_batchesInStage) := goodIn_app (goodIn_of _ (by decide +kernel)) ggX9_stage_X8_batchesInStage
set_option maxRecDepth 20000 in
theorem ggX9_stage_X8_unitsInStage : GoodIn wsX9_stage wsX8_unitsInStage := goodIn_r _ [41, 16, 17, 22, 18, 19, 20, 14, 21, 23, 24, 25, 26, 27, 28, 29, 30, 31, 32, 33, 34, 35, 36, 37, 51, 52, 53, 54, 55, 56, 57, 58, 61, 62, 63, 64, 65, 66, 67, 68, 69, 70, 71, 72, 73, 74, 59, 60] (by decide +kernel) (by decide +kernel)
set_option maxRecDepth 20000 in
theorem gX9_stage_X8_unitsInStage : GoodIn wsX9_stage (wsV RX9 273 RX8 yX8_unitsInStage wsX8_unitsInStage) := goodIn_app (goodIn_of _ (by decide +kernel)) ggX9_stage_X8_unitsInStage
theorem dX9_stage_0 : decode cX9_stage 0 = .ok (.iload_n 1, 1) := by decide +kernel
theorem dX9_stage_1 : decode cX9_stage 1 = .ok (.invokestatic 267, 3) := by decide +kernel
theorem dX9_stage_4 : decode cX9_stage 4 = .ok (.ifCond .ne 5, 3) := by decide +kernel
theorem dX9_stage_7 : decode cX9_stage 7 = .ok (.iconst (-1), 1) := by decide +kernel
theorem dX9_stage_8 : decode cX9_stage 8 = .ok (.ireturn, 1) := by decide +kernel
theorem dX9_stage_9 : decode cX9_stage 9 = .ok (.iload_n 2, 1) := by decide +kernel
theorem dX9_stage_10 : decode cX9_stage 10 = .ok (.tableswitch 57 0 2 #[26, 39, 48], 26) := by decide +kernel
theorem dX9_stage_36 : decode cX9_stage 36 = .ok (.aload_n 0, 1) := by decide +kernel
theorem dX9_stage_37 : decode cX9_stage 37 = .ok (.getfield 12, 3) := by decide +kernel
theorem dX9_stage_40 : decode cX9_stage 40 = .ok (.getfield 94, 3) := by decide +kernel
theorem dX9_stage_43 : decode cX9_stage 43 = .ok (.getfield 104, 3) := by decide +kernel
theorem dX9_stage_46 : decode cX9_stage 46 = .ok (.iload_n 1, 1) := by decide +kernel
theorem dX9_stage_47 : decode cX9_stage 47 = .ok (.iaload, 1) := by decide +kernel
theorem dX9_stage_48 : decode cX9_stage 48 = .ok (.ireturn, 1) := by decide +kernel
theorem dX9_stage_49 : decode cX9_stage 49 = .ok (.aload_n 0, 1) := by decide +kernel
theorem dX9_stage_50 : decode cX9_stage 50 = .ok (.getfield 12, 3) := by decide +kernel
theorem dX9_stage_53 : decode cX9_stage 53 = .ok (.iload_n 1, 1) := by decide +kernel
theorem dX9_stage_54 : decode cX9_stage 54 = .ok (.invokevirtual 270, 3) := by decide +kernel
theorem dX9_stage_57 : decode cX9_stage 57 = .ok (.ireturn, 1) := by decide +kernel
theorem dX9_stage_58 : decode cX9_stage 58 = .ok (.aload_n 0, 1) := by decide +kernel
theorem dX9_stage_59 : decode cX9_stage 59 = .ok (.getfield 12, 3) := by decide +kernel
theorem dX9_stage_62 : decode cX9_stage 62 = .ok (.iload_n 1, 1) := by decide +kernel
theorem dX9_stage_63 : decode cX9_stage 63 = .ok (.invokevirtual 273, 3) := by decide +kernel
theorem dX9_stage_66 : decode cX9_stage 66 = .ok (.ireturn, 1) := by decide +kernel
theorem dX9_stage_67 : decode cX9_stage 67 = .ok (.bipush (-2), 2) := by decide +kernel
theorem dX9_stage_69 : decode cX9_stage 69 = .ok (.ireturn, 1) := by decide +kernel
set_option maxRecDepth 20000 in
theorem ggX9_orderTold_X9_hasOrder : GoodIn wsX9_orderTold wsX9_hasOrder := goodIn_r _ [16, 1, 2, 17, 18, 19, 15, 20, 21, 22, 23, 24, 25, 26, 27, 28, 29, 30, 31, 32, 33, 34, 35, 36, 37, 38, 39, 40, 41, 42, 43, 44, 45, 46, 47, 48, 49, 50, 51] (by decide +kernel) (by decide +kernel)
set_option maxRecDepth 20000 in
theorem gX9_orderTold_X9_hasOrder : GoodIn wsX9_orderTold (wsV RX9 276 RX9 yX9_hasOrder wsX9_hasOrder) := goodIn_app (goodIn_of _ (by decide +kernel)) ggX9_orderTold_X9_hasOrder
theorem dX9_orderTold_0 : decode cX9_orderTold 0 = .ok (.aload_n 0, 1) := by decide +kernel
theorem dX9_orderTold_1 : decode cX9_orderTold 1 = .ok (.iload_n 1, 1) := by decide +kernel
theorem dX9_orderTold_2 : decode cX9_orderTold 2 = .ok (.invokevirtual 276, 3) := by decide +kernel
theorem dX9_orderTold_5 : decode cX9_orderTold 5 = .ok (.ifCond .ne 5, 3) := by decide +kernel
theorem dX9_orderTold_8 : decode cX9_orderTold 8 = .ok (.iconst (-1), 1) := by decide +kernel
theorem dX9_orderTold_9 : decode cX9_orderTold 9 = .ok (.ireturn, 1) := by decide +kernel
theorem dX9_orderTold_10 : decode cX9_orderTold 10 = .ok (.aload_n 0, 1) := by decide +kernel
theorem dX9_orderTold_11 : decode cX9_orderTold 11 = .ok (.getfield 12, 3) := by decide +kernel
theorem dX9_orderTold_14 : decode cX9_orderTold 14 = .ok (.getfield 165, 3) := by decide +kernel
theorem dX9_orderTold_17 : decode cX9_orderTold 17 = .ok (.astore_n 3, 1) := by decide +kernel
theorem dX9_orderTold_18 : decode cX9_orderTold 18 = .ok (.iload_n 2, 1) := by decide +kernel
theorem dX9_orderTold_19 : decode cX9_orderTold 19 = .ok (.tableswitch 112 0 8 #[49, 56, 63, 70, 77, 84, 91, 98, 105], 49) := by decide +kernel
theorem dX9_orderTold_68 : decode cX9_orderTold 68 = .ok (.aload_n 3, 1) := by decide +kernel
theorem dX9_orderTold_69 : decode cX9_orderTold 69 = .ok (.getfield 279, 3) := by decide +kernel
theorem dX9_orderTold_72 : decode cX9_orderTold 72 = .ok (.iload_n 1, 1) := by decide +kernel
theorem dX9_orderTold_73 : decode cX9_orderTold 73 = .ok (.iaload, 1) := by decide +kernel
theorem dX9_orderTold_74 : decode cX9_orderTold 74 = .ok (.ireturn, 1) := by decide +kernel
theorem dX9_orderTold_75 : decode cX9_orderTold 75 = .ok (.aload_n 3, 1) := by decide +kernel
theorem dX9_orderTold_76 : decode cX9_orderTold 76 = .ok (.getfield 280, 3) := by decide +kernel
theorem dX9_orderTold_79 : decode cX9_orderTold 79 = .ok (.iload_n 1, 1) := by decide +kernel
theorem dX9_orderTold_80 : decode cX9_orderTold 80 = .ok (.iaload, 1) := by decide +kernel
theorem dX9_orderTold_81 : decode cX9_orderTold 81 = .ok (.ireturn, 1) := by decide +kernel
theorem dX9_orderTold_82 : decode cX9_orderTold 82 = .ok (.aload_n 3, 1) := by decide +kernel
theorem dX9_orderTold_83 : decode cX9_orderTold 83 = .ok (.getfield 283, 3) := by decide +kernel
theorem dX9_orderTold_86 : decode cX9_orderTold 86 = .ok (.iload_n 1, 1) := by decide +kernel
theorem dX9_orderTold_87 : decode cX9_orderTold 87 = .ok (.iaload, 1) := by decide +kernel
theorem dX9_orderTold_88 : decode cX9_orderTold 88 = .ok (.ireturn, 1) := by decide +kernel
theorem dX9_orderTold_89 : decode cX9_orderTold 89 = .ok (.aload_n 3, 1) := by decide +kernel
theorem dX9_orderTold_90 : decode cX9_orderTold 90 = .ok (.getfield 285, 3) := by decide +kernel
theorem dX9_orderTold_93 : decode cX9_orderTold 93 = .ok (.iload_n 1, 1) := by decide +kernel
theorem dX9_orderTold_94 : decode cX9_orderTold 94 = .ok (.iaload, 1) := by decide +kernel
theorem dX9_orderTold_95 : decode cX9_orderTold 95 = .ok (.ireturn, 1) := by decide +kernel
theorem dX9_orderTold_96 : decode cX9_orderTold 96 = .ok (.aload_n 3, 1) := by decide +kernel
theorem dX9_orderTold_97 : decode cX9_orderTold 97 = .ok (.getfield 288, 3) := by decide +kernel
theorem dX9_orderTold_100 : decode cX9_orderTold 100 = .ok (.iload_n 1, 1) := by decide +kernel
theorem dX9_orderTold_101 : decode cX9_orderTold 101 = .ok (.iaload, 1) := by decide +kernel
theorem dX9_orderTold_102 : decode cX9_orderTold 102 = .ok (.ireturn, 1) := by decide +kernel
theorem dX9_orderTold_103 : decode cX9_orderTold 103 = .ok (.aload_n 3, 1) := by decide +kernel
theorem dX9_orderTold_104 : decode cX9_orderTold 104 = .ok (.getfield 291, 3) := by decide +kernel
theorem dX9_orderTold_107 : decode cX9_orderTold 107 = .ok (.iload_n 1, 1) := by decide +kernel
theorem dX9_orderTold_108 : decode cX9_orderTold 108 = .ok (.iaload, 1) := by decide +kernel
theorem dX9_orderTold_109 : decode cX9_orderTold 109 = .ok (.ireturn, 1) := by decide +kernel
theorem dX9_orderTold_110 : decode cX9_orderTold 110 = .ok (.aload_n 3, 1) := by decide +kernel
theorem dX9_orderTold_111 : decode cX9_orderTold 111 = .ok (.getfield 294, 3) := by decide +kernel
theorem dX9_orderTold_114 : decode cX9_orderTold 114 = .ok (.iload_n 1, 1) := by decide +kernel
theorem dX9_orderTold_115 : decode cX9_orderTold 115 = .ok (.iaload, 1) := by decide +kernel
theorem dX9_orderTold_116 : decode cX9_orderTold 116 = .ok (.ireturn, 1) := by decide +kernel
theorem dX9_orderTold_117 : decode cX9_orderTold 117 = .ok (.aload_n 3, 1) := by decide +kernel
theorem dX9_orderTold_118 : decode cX9_orderTold 118 = .ok (.getfield 297, 3) := by decide +kernel
theorem dX9_orderTold_121 : decode cX9_orderTold 121 = .ok (.iload_n 1, 1) := by decide +kernel
theorem dX9_orderTold_122 : decode cX9_orderTold 122 = .ok (.iaload, 1) := by decide +kernel
theorem dX9_orderTold_123 : decode cX9_orderTold 123 = .ok (.ireturn, 1) := by decide +kernel
theorem dX9_orderTold_124 : decode cX9_orderTold 124 = .ok (.aload_n 3, 1) := by decide +kernel
theorem dX9_orderTold_125 : decode cX9_orderTold 125 = .ok (.getfield 300, 3) := by decide +kernel
theorem dX9_orderTold_128 : decode cX9_orderTold 128 = .ok (.iload_n 1, 1) := by decide +kernel
theorem dX9_orderTold_129 : decode cX9_orderTold 129 = .ok (.iaload, 1) := by decide +kernel
theorem dX9_orderTold_130 : decode cX9_orderTold 130 = .ok (.ireturn, 1) := by decide +kernel
theorem dX9_orderTold_131 : decode cX9_orderTold 131 = .ok (.bipush (-2), 2) := by decide +kernel
theorem dX9_orderTold_133 : decode cX9_orderTold 133 = .ok (.ireturn, 1) := by decide +kernel
set_option maxRecDepth 20000 in
theorem ggX9_taken_X9_hasOrder : GoodIn wsX9_taken wsX9_hasOrder := goodIn_r _ [11, 1, 2, 12, 13, 14, 10, 15, 16, 17, 18, 19, 20, 21, 22, 23, 24, 25, 26, 27, 28, 29, 30, 31, 32, 33, 34, 35, 36, 37, 38, 39, 40, 41, 42, 43, 44, 45, 46] (by decide +kernel) (by decide +kernel)
set_option maxRecDepth 20000 in
theorem gX9_taken_X9_hasOrder : GoodIn wsX9_taken (wsV RX9 276 RX9 yX9_hasOrder wsX9_hasOrder) := goodIn_app (goodIn_of _ (by decide +kernel)) ggX9_taken_X9_hasOrder
set_option maxRecDepth 20000 in
theorem ggX9_taken_X9_within : GoodIn wsX9_taken wsX9_within := goodIn_r _ [15] (by decide +kernel) (by decide +kernel)
set_option maxRecDepth 20000 in
theorem gX9_taken_X9_within : GoodIn wsX9_taken (va_wsS RX9 47 yX9_within wsX9_within) := goodIn_app (goodIn_of _ (by decide +kernel)) ggX9_taken_X9_within
theorem dX9_taken_0 : decode cX9_taken 0 = .ok (.aload_n 0, 1) := by decide +kernel
theorem dX9_taken_1 : decode cX9_taken 1 = .ok (.iload_n 1, 1) := by decide +kernel
theorem dX9_taken_2 : decode cX9_taken 2 = .ok (.invokevirtual 276, 3) := by decide +kernel
theorem dX9_taken_5 : decode cX9_taken 5 = .ok (.ifCond .ne 5, 3) := by decide +kernel
theorem dX9_taken_8 : decode cX9_taken 8 = .ok (.iconst (-1), 1) := by decide +kernel
theorem dX9_taken_9 : decode cX9_taken 9 = .ok (.ireturn, 1) := by decide +kernel
theorem dX9_taken_10 : decode cX9_taken 10 = .ok (.iload_n 2, 1) := by decide +kernel
theorem dX9_taken_11 : decode cX9_taken 11 = .ok (.ifCond .lt 12, 3) := by decide +kernel
theorem dX9_taken_14 : decode cX9_taken 14 = .ok (.iload_n 3, 1) := by decide +kernel
theorem dX9_taken_15 : decode cX9_taken 15 = .ok (.iconst 0, 1) := by decide +kernel
theorem dX9_taken_16 : decode cX9_taken 16 = .ok (.iconst 1, 1) := by decide +kernel
theorem dX9_taken_17 : decode cX9_taken 17 = .ok (.invokestatic 47, 3) := by decide +kernel
theorem dX9_taken_20 : decode cX9_taken 20 = .ok (.ifCond .ne 6, 3) := by decide +kernel
theorem dX9_taken_23 : decode cX9_taken 23 = .ok (.bipush (-2), 2) := by decide +kernel
theorem dX9_taken_25 : decode cX9_taken 25 = .ok (.ireturn, 1) := by decide +kernel
theorem dX9_taken_26 : decode cX9_taken 26 = .ok (.iload_n 2, 1) := by decide +kernel
theorem dX9_taken_27 : decode cX9_taken 27 = .ok (.aload_n 0, 1) := by decide +kernel
theorem dX9_taken_28 : decode cX9_taken 28 = .ok (.getfield 12, 3) := by decide +kernel
theorem dX9_taken_31 : decode cX9_taken 31 = .ok (.getfield 165, 3) := by decide +kernel
theorem dX9_taken_34 : decode cX9_taken 34 = .ok (.getfield 294, 3) := by decide +kernel
theorem dX9_taken_37 : decode cX9_taken 37 = .ok (.iload_n 1, 1) := by decide +kernel
theorem dX9_taken_38 : decode cX9_taken 38 = .ok (.iaload, 1) := by decide +kernel
theorem dX9_taken_39 : decode cX9_taken 39 = .ok (.if_icmp .lt 6, 3) := by decide +kernel
theorem dX9_taken_42 : decode cX9_taken 42 = .ok (.bipush (-5), 2) := by decide +kernel
theorem dX9_taken_44 : decode cX9_taken 44 = .ok (.ireturn, 1) := by decide +kernel
theorem dX9_taken_45 : decode cX9_taken 45 = .ok (.aload_n 0, 1) := by decide +kernel
theorem dX9_taken_46 : decode cX9_taken 46 = .ok (.getfield 12, 3) := by decide +kernel
theorem dX9_taken_49 : decode cX9_taken 49 = .ok (.getfield 165, 3) := by decide +kernel
theorem dX9_taken_52 : decode cX9_taken 52 = .ok (.getfield 302, 3) := by decide +kernel
theorem dX9_taken_55 : decode cX9_taken 55 = .ok (.iload_n 1, 1) := by decide +kernel
theorem dX9_taken_56 : decode cX9_taken 56 = .ok (.iaload, 1) := by decide +kernel
theorem dX9_taken_57 : decode cX9_taken 57 = .ok (.iload_n 2, 1) := by decide +kernel
theorem dX9_taken_58 : decode cX9_taken 58 = .ok (.iadd, 1) := by decide +kernel
theorem dX9_taken_59 : decode cX9_taken 59 = .ok (.istore 4, 2) := by decide +kernel
theorem dX9_taken_61 : decode cX9_taken 61 = .ok (.iload_n 3, 1) := by decide +kernel
theorem dX9_taken_62 : decode cX9_taken 62 = .ok (.ifCond .ne 19, 3) := by decide +kernel
theorem dX9_taken_65 : decode cX9_taken 65 = .ok (.aload_n 0, 1) := by decide +kernel
theorem dX9_taken_66 : decode cX9_taken 66 = .ok (.getfield 12, 3) := by decide +kernel
theorem dX9_taken_69 : decode cX9_taken 69 = .ok (.getfield 165, 3) := by decide +kernel
theorem dX9_taken_72 : decode cX9_taken 72 = .ok (.getfield 305, 3) := by decide +kernel
theorem dX9_taken_75 : decode cX9_taken 75 = .ok (.iload 4, 2) := by decide +kernel
theorem dX9_taken_77 : decode cX9_taken 77 = .ok (.iaload, 1) := by decide +kernel
theorem dX9_taken_78 : decode cX9_taken 78 = .ok (.goto 16, 3) := by decide +kernel
theorem dX9_taken_81 : decode cX9_taken 81 = .ok (.aload_n 0, 1) := by decide +kernel
theorem dX9_taken_82 : decode cX9_taken 82 = .ok (.getfield 12, 3) := by decide +kernel
theorem dX9_taken_85 : decode cX9_taken 85 = .ok (.getfield 165, 3) := by decide +kernel
theorem dX9_taken_88 : decode cX9_taken 88 = .ok (.getfield 308, 3) := by decide +kernel
theorem dX9_taken_91 : decode cX9_taken 91 = .ok (.iload 4, 2) := by decide +kernel
theorem dX9_taken_93 : decode cX9_taken 93 = .ok (.iaload, 1) := by decide +kernel
theorem dX9_taken_94 : decode cX9_taken 94 = .ok (.ireturn, 1) := by decide +kernel
set_option maxRecDepth 20000 in
theorem ggX9_wouldGet_X9_wishError : GoodIn wsX9_wouldGet wsX9_wishError := goodIn_r _ [11, 12, 13, 14, 10, 15, 2, 16, 17, 18, 19, 20, 116, 117, 118, 119, 120, 121, 122, 123, 124, 136, 137, 138, 139, 140, 141, 142, 143, 144, 145, 146, 147, 148] (by decide +kernel) (by decide +kernel)
set_option maxRecDepth 20000 in
theorem gX9_wouldGet_X9_wishError : GoodIn wsX9_wouldGet (wsV RX9 162 RX9 yX9_wishError wsX9_wishError) := goodIn_app (goodIn_of _ (by decide +kernel)) ggX9_wouldGet_X9_wishError
set_option maxRecDepth 20000 in
theorem ggX9_wouldGet_X9_within : GoodIn wsX9_wouldGet wsX9_within := goodIn_r _ [20] (by decide +kernel) (by decide +kernel)
set_option maxRecDepth 20000 in
theorem gX9_wouldGet_X9_within : GoodIn wsX9_wouldGet (va_wsS RX9 47 yX9_within wsX9_within) := goodIn_app (goodIn_of _ (by decide +kernel)) ggX9_wouldGet_X9_within
set_option maxRecDepth 20000 in
theorem ggX9_wouldGet_X2_fill : GoodIn wsX9_wouldGet wsX2_fill := goodIn_r _ [25, 26, 27, 28, 29, 30, 31, 32, 33, 34, 35, 36, 37, 38, 39, 10, 40, 41, 42, 43, 44, 45, 46, 47, 48, 49, 50, 51, 52, 53, 54, 55, 56, 57, 58, 59, 60, 61, 62, 63, 64, 65, 66, 67, 68, 69, 70, 71, 72, 73, 74, 75, 24, 76, 77, 78, 79, 80, 81, 82, 83, 84, 85, 86, 87, 88, 89, 90, 91, 92, 93, 94, 95, 96, 97, 98, 99, 100, 101, 102, 103, 104, 105, 106, 107, 108, 109, 110, 125, 126, 127, 128, 129, 130, 131, 132, 133, 134, 135, 136, 137, 138, 139, 140, 141, 142, 143, 149, 150, 151, 152, 153, 154, 155, 156, 157, 144, 145, 146, 147, 148, 158, 159] (by decide +kernel) (by decide +kernel)
set_option maxRecDepth 20000 in
theorem gX9_wouldGet_X2_fill : GoodIn wsX9_wouldGet (wsV RX9 178 RX2 yX2_fill wsX2_fill) := goodIn_app (goodIn_of _ (by decide +kernel)) ggX9_wouldGet_X2_fill
set_option maxRecDepth 20000 in
theorem ggX9_wouldGet_X2_due : GoodIn wsX9_wouldGet wsX2_due := goodIn_r _ [114, 26, 99, 115, 125, 126, 127, 128, 129, 130, 131, 132, 133, 134, 135] (by decide +kernel) (by decide +kernel)
set_option maxRecDepth 20000 in
theorem gX9_wouldGet_X2_due : GoodIn wsX9_wouldGet (wsV RX9 314 RX2 yX2_due wsX2_due) := goodIn_app (goodIn_of _ (by decide +kernel)) ggX9_wouldGet_X2_due
theorem dX9_wouldGet_0 : decode cX9_wouldGet 0 = .ok (.aload_n 0, 1) := by decide +kernel
theorem dX9_wouldGet_1 : decode cX9_wouldGet 1 = .ok (.iload_n 1, 1) := by decide +kernel
theorem dX9_wouldGet_2 : decode cX9_wouldGet 2 = .ok (.iload_n 2, 1) := by decide +kernel
theorem dX9_wouldGet_3 : decode cX9_wouldGet 3 = .ok (.iload_n 3, 1) := by decide +kernel
theorem dX9_wouldGet_4 : decode cX9_wouldGet 4 = .ok (.invokevirtual 162, 3) := by decide +kernel
theorem dX9_wouldGet_7 : decode cX9_wouldGet 7 = .ok (.istore 6, 2) := by decide +kernel
theorem dX9_wouldGet_9 : decode cX9_wouldGet 9 = .ok (.iload 6, 2) := by decide +kernel
theorem dX9_wouldGet_11 : decode cX9_wouldGet 11 = .ok (.ifCond .eq 6, 3) := by decide +kernel
theorem dX9_wouldGet_14 : decode cX9_wouldGet 14 = .ok (.iload 6, 2) := by decide +kernel
theorem dX9_wouldGet_16 : decode cX9_wouldGet 16 = .ok (.ireturn, 1) := by decide +kernel
theorem dX9_wouldGet_17 : decode cX9_wouldGet 17 = .ok (.iload 5, 2) := by decide +kernel
theorem dX9_wouldGet_19 : decode cX9_wouldGet 19 = .ok (.iconst 0, 1) := by decide +kernel
theorem dX9_wouldGet_20 : decode cX9_wouldGet 20 = .ok (.iconst 3, 1) := by decide +kernel
theorem dX9_wouldGet_21 : decode cX9_wouldGet 21 = .ok (.invokestatic 47, 3) := by decide +kernel
theorem dX9_wouldGet_24 : decode cX9_wouldGet 24 = .ok (.ifCond .ne 6, 3) := by decide +kernel
theorem dX9_wouldGet_27 : decode cX9_wouldGet 27 = .ok (.bipush (-2), 2) := by decide +kernel
theorem dX9_wouldGet_29 : decode cX9_wouldGet 29 = .ok (.ireturn, 1) := by decide +kernel
theorem dX9_wouldGet_30 : decode cX9_wouldGet 30 = .ok (.aload_n 0, 1) := by decide +kernel
theorem dX9_wouldGet_31 : decode cX9_wouldGet 31 = .ok (.getfield 32, 3) := by decide +kernel
theorem dX9_wouldGet_34 : decode cX9_wouldGet 34 = .ok (.aload_n 0, 1) := by decide +kernel
theorem dX9_wouldGet_35 : decode cX9_wouldGet 35 = .ok (.getfield 12, 3) := by decide +kernel
theorem dX9_wouldGet_38 : decode cX9_wouldGet 38 = .ok (.iload_n 1, 1) := by decide +kernel
theorem dX9_wouldGet_39 : decode cX9_wouldGet 39 = .ok (.iload_n 2, 1) := by decide +kernel
theorem dX9_wouldGet_40 : decode cX9_wouldGet 40 = .ok (.iload_n 3, 1) := by decide +kernel
theorem dX9_wouldGet_41 : decode cX9_wouldGet 41 = .ok (.iload 4, 2) := by decide +kernel
theorem dX9_wouldGet_43 : decode cX9_wouldGet 43 = .ok (.invokevirtual 178, 3) := by decide +kernel
theorem dX9_wouldGet_46 : decode cX9_wouldGet 46 = .ok (.iload 5, 2) := by decide +kernel
theorem dX9_wouldGet_48 : decode cX9_wouldGet 48 = .ok (.tableswitch 52 0 2 #[28, 36, 44], 28) := by decide +kernel
theorem dX9_wouldGet_76 : decode cX9_wouldGet 76 = .ok (.aload_n 0, 1) := by decide +kernel
theorem dX9_wouldGet_77 : decode cX9_wouldGet 77 = .ok (.getfield 32, 3) := by decide +kernel
theorem dX9_wouldGet_80 : decode cX9_wouldGet 80 = .ok (.getfield 186, 3) := by decide +kernel
theorem dX9_wouldGet_83 : decode cX9_wouldGet 83 = .ok (.ireturn, 1) := by decide +kernel
theorem dX9_wouldGet_84 : decode cX9_wouldGet 84 = .ok (.aload_n 0, 1) := by decide +kernel
theorem dX9_wouldGet_85 : decode cX9_wouldGet 85 = .ok (.getfield 32, 3) := by decide +kernel
theorem dX9_wouldGet_88 : decode cX9_wouldGet 88 = .ok (.getfield 311, 3) := by decide +kernel
theorem dX9_wouldGet_91 : decode cX9_wouldGet 91 = .ok (.ireturn, 1) := by decide +kernel
theorem dX9_wouldGet_92 : decode cX9_wouldGet 92 = .ok (.aload_n 0, 1) := by decide +kernel
theorem dX9_wouldGet_93 : decode cX9_wouldGet 93 = .ok (.getfield 32, 3) := by decide +kernel
theorem dX9_wouldGet_96 : decode cX9_wouldGet 96 = .ok (.getfield 313, 3) := by decide +kernel
theorem dX9_wouldGet_99 : decode cX9_wouldGet 99 = .ok (.ireturn, 1) := by decide +kernel
theorem dX9_wouldGet_100 : decode cX9_wouldGet 100 = .ok (.aload_n 0, 1) := by decide +kernel
theorem dX9_wouldGet_101 : decode cX9_wouldGet 101 = .ok (.getfield 32, 3) := by decide +kernel
theorem dX9_wouldGet_104 : decode cX9_wouldGet 104 = .ok (.aload_n 0, 1) := by decide +kernel
theorem dX9_wouldGet_105 : decode cX9_wouldGet 105 = .ok (.getfield 12, 3) := by decide +kernel
theorem dX9_wouldGet_108 : decode cX9_wouldGet 108 = .ok (.getfield 122, 3) := by decide +kernel
theorem dX9_wouldGet_111 : decode cX9_wouldGet 111 = .ok (.invokevirtual 314, 3) := by decide +kernel
theorem dX9_wouldGet_114 : decode cX9_wouldGet 114 = .ok (.ireturn, 1) := by decide +kernel
set_option maxRecDepth 20000 in
theorem ggX9_wouldExpire_X9_hasBatch : GoodIn wsX9_wouldExpire wsX9_hasBatch := goodIn_r _ [9, 2, 3, 10, 11, 12, 8, 13, 143, 144, 145, 146, 147, 148, 149, 150, 151, 152, 153, 154, 155, 156, 157, 158, 159, 160, 161, 162, 163, 164, 165, 166, 167, 168] (by decide +kernel) (by decide +kernel)
set_option maxRecDepth 20000 in
theorem gX9_wouldExpire_X9_hasBatch : GoodIn wsX9_wouldExpire (wsV RX9 189 RX9 yX9_hasBatch wsX9_hasBatch) := goodIn_app (goodIn_of _ (by decide +kernel)) ggX9_wouldExpire_X9_hasBatch
set_option maxRecDepth 20000 in
theorem ggX9_wouldExpire_X9_within : GoodIn wsX9_wouldExpire wsX9_within := goodIn_r _ [13] (by decide +kernel) (by decide +kernel)
set_option maxRecDepth 20000 in
theorem gX9_wouldExpire_X9_within : GoodIn wsX9_wouldExpire (va_wsS RX9 47 yX9_within wsX9_within) := goodIn_app (goodIn_of _ (by decide +kernel)) ggX9_wouldExpire_X9_within
set_option maxRecDepth 20000 in
theorem ggX9_wouldExpire_X8_copyFrom : GoodIn wsX9_wouldExpire wsX8_copyFrom := goodIn_r _ [18, 19, 20, 21, 22, 23, 24, 25, 26, 27, 28, 29, 30, 31, 32, 33, 34, 35, 36, 37, 8, 38, 39, 40, 41, 42, 43, 44, 45, 46, 47, 48, 49, 50, 51, 52, 53, 54, 55, 56, 57, 58, 59, 60, 61, 62, 63, 64, 65, 66, 67, 68, 69, 70, 71, 72, 73, 74, 75, 76, 77, 78, 79, 80, 81, 82, 83, 84, 85, 86, 87, 88, 89, 90, 91, 92, 93, 94, 95, 96, 97, 152, 153, 154, 155, 156, 157, 158, 159, 169, 170, 171, 172, 173, 160, 161, 162, 163, 164, 165, 166, 167, 168, 174, 175, 176, 177, 178, 179, 180, 181, 182, 183, 184, 185, 186, 187, 188, 189, 190, 191, 192, 193, 194, 195] (by decide +kernel) (by decide +kernel)
set_option maxRecDepth 20000 in
theorem gX9_wouldExpire_X8_copyFrom : GoodIn wsX9_wouldExpire (wsV RX9 213 RX8 yX8_copyFrom wsX8_copyFrom) := goodIn_app (goodIn_of _ (by decide +kernel)) ggX9_wouldExpire_X8_copyFrom
set_option maxRecDepth 20000 in
theorem ggX9_wouldExpire_X8_passDays : GoodIn wsX9_wouldExpire wsX8_passDays := goodIn_r _ [101, 26, 20, 102, 103, 104, 50, 105, 52, 56, 55, 106, 107, 108, 17, 109, 110, 111, 112, 113, 114, 115, 116, 117, 23, 118, 119, 120, 90, 121, 94, 93, 95, 96, 97, 92, 122, 40, 41, 42, 123, 124, 125, 126, 24, 127, 128, 129, 130, 131, 22, 19, 132, 133, 134, 135, 136, 83, 137, 85, 138, 139, 140, 141, 142, 152, 153, 154, 155, 156, 157, 158, 159, 160, 161, 162, 163, 164, 165, 166, 167, 168, 190, 191, 192, 193, 194, 195, 169, 170, 171, 172, 173, 188, 189] (by decide +kernel) (by decide +kernel)
set_option maxRecDepth 20000 in
theorem gX9_wouldExpire_X8_passDays : GoodIn wsX9_wouldExpire (wsV RX9 206 RX8 yX8_passDays wsX8_passDays) := goodIn_app (goodIn_of _ (by decide +kernel)) ggX9_wouldExpire_X8_passDays
theorem dX9_wouldExpire_0 : decode cX9_wouldExpire 0 = .ok (.aload_n 0, 1) := by decide +kernel
theorem dX9_wouldExpire_1 : decode cX9_wouldExpire 1 = .ok (.iload_n 1, 1) := by decide +kernel
theorem dX9_wouldExpire_2 : decode cX9_wouldExpire 2 = .ok (.invokevirtual 189, 3) := by decide +kernel
theorem dX9_wouldExpire_5 : decode cX9_wouldExpire 5 = .ok (.ifCond .ne 5, 3) := by decide +kernel
theorem dX9_wouldExpire_8 : decode cX9_wouldExpire 8 = .ok (.iconst (-1), 1) := by decide +kernel
theorem dX9_wouldExpire_9 : decode cX9_wouldExpire 9 = .ok (.ireturn, 1) := by decide +kernel
theorem dX9_wouldExpire_10 : decode cX9_wouldExpire 10 = .ok (.iload_n 2, 1) := by decide +kernel
theorem dX9_wouldExpire_11 : decode cX9_wouldExpire 11 = .ok (.iconst 1, 1) := by decide +kernel
theorem dX9_wouldExpire_12 : decode cX9_wouldExpire 12 = .ok (.bipush 60, 2) := by decide +kernel
theorem dX9_wouldExpire_14 : decode cX9_wouldExpire 14 = .ok (.invokestatic 47, 3) := by decide +kernel
theorem dX9_wouldExpire_17 : decode cX9_wouldExpire 17 = .ok (.ifCond .ne 6, 3) := by decide +kernel
theorem dX9_wouldExpire_20 : decode cX9_wouldExpire 20 = .ok (.bipush (-2), 2) := by decide +kernel
theorem dX9_wouldExpire_22 : decode cX9_wouldExpire 22 = .ok (.ireturn, 1) := by decide +kernel
theorem dX9_wouldExpire_23 : decode cX9_wouldExpire 23 = .ok (.aload_n 0, 1) := by decide +kernel
theorem dX9_wouldExpire_24 : decode cX9_wouldExpire 24 = .ok (.getfield 19, 3) := by decide +kernel
theorem dX9_wouldExpire_27 : decode cX9_wouldExpire 27 = .ok (.aload_n 0, 1) := by decide +kernel
theorem dX9_wouldExpire_28 : decode cX9_wouldExpire 28 = .ok (.getfield 12, 3) := by decide +kernel
theorem dX9_wouldExpire_31 : decode cX9_wouldExpire 31 = .ok (.invokevirtual 213, 3) := by decide +kernel
theorem dX9_wouldExpire_34 : decode cX9_wouldExpire 34 = .ok (.aload_n 0, 1) := by decide +kernel
theorem dX9_wouldExpire_35 : decode cX9_wouldExpire 35 = .ok (.getfield 19, 3) := by decide +kernel
theorem dX9_wouldExpire_38 : decode cX9_wouldExpire 38 = .ok (.iload_n 2, 1) := by decide +kernel
theorem dX9_wouldExpire_39 : decode cX9_wouldExpire 39 = .ok (.invokevirtual 206, 3) := by decide +kernel
theorem dX9_wouldExpire_42 : decode cX9_wouldExpire 42 = .ok (.pop, 1) := by decide +kernel
theorem dX9_wouldExpire_43 : decode cX9_wouldExpire 43 = .ok (.aload_n 0, 1) := by decide +kernel
theorem dX9_wouldExpire_44 : decode cX9_wouldExpire 44 = .ok (.getfield 19, 3) := by decide +kernel
theorem dX9_wouldExpire_47 : decode cX9_wouldExpire 47 = .ok (.getfield 129, 3) := by decide +kernel
theorem dX9_wouldExpire_50 : decode cX9_wouldExpire 50 = .ok (.getfield 250, 3) := by decide +kernel
theorem dX9_wouldExpire_53 : decode cX9_wouldExpire 53 = .ok (.iconst 0, 1) := by decide +kernel
theorem dX9_wouldExpire_54 : decode cX9_wouldExpire 54 = .ok (.aaload, 1) := by decide +kernel
theorem dX9_wouldExpire_55 : decode cX9_wouldExpire 55 = .ok (.iload_n 1, 1) := by decide +kernel
theorem dX9_wouldExpire_56 : decode cX9_wouldExpire 56 = .ok (.iaload, 1) := by decide +kernel
theorem dX9_wouldExpire_57 : decode cX9_wouldExpire 57 = .ok (.aload_n 0, 1) := by decide +kernel
theorem dX9_wouldExpire_58 : decode cX9_wouldExpire 58 = .ok (.getfield 12, 3) := by decide +kernel
theorem dX9_wouldExpire_61 : decode cX9_wouldExpire 61 = .ok (.getfield 129, 3) := by decide +kernel
theorem dX9_wouldExpire_64 : decode cX9_wouldExpire 64 = .ok (.getfield 250, 3) := by decide +kernel
theorem dX9_wouldExpire_67 : decode cX9_wouldExpire 67 = .ok (.iconst 0, 1) := by decide +kernel
theorem dX9_wouldExpire_68 : decode cX9_wouldExpire 68 = .ok (.aaload, 1) := by decide +kernel
theorem dX9_wouldExpire_69 : decode cX9_wouldExpire 69 = .ok (.iload_n 1, 1) := by decide +kernel
theorem dX9_wouldExpire_70 : decode cX9_wouldExpire 70 = .ok (.iaload, 1) := by decide +kernel
theorem dX9_wouldExpire_71 : decode cX9_wouldExpire 71 = .ok (.isub, 1) := by decide +kernel
theorem dX9_wouldExpire_72 : decode cX9_wouldExpire 72 = .ok (.ireturn, 1) := by decide +kernel
set_option maxRecDepth 20000 in
theorem ggX9_stageIn_X9_hasBatch : GoodIn wsX9_stageIn wsX9_hasBatch := goodIn_r _ [13, 1, 2, 14, 15, 16, 12, 17, 24, 25, 26, 27, 28, 29, 30, 31, 32, 33, 34, 35, 36, 37, 38, 39, 40, 41, 42, 43, 44, 45, 46, 47, 48, 49] (by decide +kernel) (by decide +kernel)
set_option maxRecDepth 20000 in
theorem gX9_stageIn_X9_hasBatch : GoodIn wsX9_stageIn (wsV RX9 189 RX9 yX9_hasBatch wsX9_hasBatch) := goodIn_app (goodIn_of _ (by decide +kernel)) ggX9_stageIn_X9_hasBatch
set_option maxRecDepth 20000 in
theorem ggX9_stageIn_X9_within : GoodIn wsX9_stageIn wsX9_within := goodIn_r _ [17] (by decide +kernel) (by decide +kernel)
set_option maxRecDepth 20000 in
theorem gX9_stageIn_X9_within : GoodIn wsX9_stageIn (va_wsS RX9 47 yX9_within wsX9_within) := goodIn_app (goodIn_of _ (by decide +kernel)) ggX9_stageIn_X9_within
set_option maxRecDepth 20000 in
theorem ggX9_stageIn_X7_reached : GoodIn wsX9_stageIn wsX7_reached := goodIn_r _ [22, 23, 55, 56] (by decide +kernel) (by decide +kernel)
set_option maxRecDepth 20000 in
theorem gX9_stageIn_X7_reached : GoodIn wsX9_stageIn (wsV RX9 317 RX7 yX7_reached wsX7_reached) := goodIn_app (goodIn_of _ (by decide +kernel)) ggX9_stageIn_X7_reached
theorem dX9_stageIn_0 : decode cX9_stageIn 0 = .ok (.aload_n 0, 1) := by decide +kernel
theorem dX9_stageIn_1 : decode cX9_stageIn 1 = .ok (.iload_n 1, 1) := by decide +kernel
theorem dX9_stageIn_2 : decode cX9_stageIn 2 = .ok (.invokevirtual 189, 3) := by decide +kernel
theorem dX9_stageIn_5 : decode cX9_stageIn 5 = .ok (.ifCond .eq 12, 3) := by decide +kernel
theorem dX9_stageIn_8 : decode cX9_stageIn 8 = .ok (.iload_n 2, 1) := by decide +kernel
theorem dX9_stageIn_9 : decode cX9_stageIn 9 = .ok (.iconst 1, 1) := by decide +kernel
theorem dX9_stageIn_10 : decode cX9_stageIn 10 = .ok (.iconst 3, 1) := by decide +kernel
theorem dX9_stageIn_11 : decode cX9_stageIn 11 = .ok (.invokestatic 47, 3) := by decide +kernel
theorem dX9_stageIn_14 : decode cX9_stageIn 14 = .ok (.ifCond .ne 5, 3) := by decide +kernel
theorem dX9_stageIn_17 : decode cX9_stageIn 17 = .ok (.iconst (-1), 1) := by decide +kernel
theorem dX9_stageIn_18 : decode cX9_stageIn 18 = .ok (.ireturn, 1) := by decide +kernel
theorem dX9_stageIn_19 : decode cX9_stageIn 19 = .ok (.aload_n 0, 1) := by decide +kernel
theorem dX9_stageIn_20 : decode cX9_stageIn 20 = .ok (.getfield 12, 3) := by decide +kernel
theorem dX9_stageIn_23 : decode cX9_stageIn 23 = .ok (.getfield 129, 3) := by decide +kernel
theorem dX9_stageIn_26 : decode cX9_stageIn 26 = .ok (.getfield 192, 3) := by decide +kernel
theorem dX9_stageIn_29 : decode cX9_stageIn 29 = .ok (.iload_n 1, 1) := by decide +kernel
theorem dX9_stageIn_30 : decode cX9_stageIn 30 = .ok (.iaload, 1) := by decide +kernel
theorem dX9_stageIn_31 : decode cX9_stageIn 31 = .ok (.ifCond .ne 6, 3) := by decide +kernel
theorem dX9_stageIn_34 : decode cX9_stageIn 34 = .ok (.bipush (-5), 2) := by decide +kernel
theorem dX9_stageIn_36 : decode cX9_stageIn 36 = .ok (.ireturn, 1) := by decide +kernel
theorem dX9_stageIn_37 : decode cX9_stageIn 37 = .ok (.aload_n 0, 1) := by decide +kernel
theorem dX9_stageIn_38 : decode cX9_stageIn 38 = .ok (.getfield 12, 3) := by decide +kernel
theorem dX9_stageIn_41 : decode cX9_stageIn 41 = .ok (.getfield 129, 3) := by decide +kernel
theorem dX9_stageIn_44 : decode cX9_stageIn 44 = .ok (.getfield 241, 3) := by decide +kernel
theorem dX9_stageIn_47 : decode cX9_stageIn 47 = .ok (.iload_n 1, 1) := by decide +kernel
theorem dX9_stageIn_48 : decode cX9_stageIn 48 = .ok (.iaload, 1) := by decide +kernel
theorem dX9_stageIn_49 : decode cX9_stageIn 49 = .ok (.istore_n 3, 1) := by decide +kernel
theorem dX9_stageIn_50 : decode cX9_stageIn 50 = .ok (.aload_n 0, 1) := by decide +kernel
theorem dX9_stageIn_51 : decode cX9_stageIn 51 = .ok (.getfield 12, 3) := by decide +kernel
theorem dX9_stageIn_54 : decode cX9_stageIn 54 = .ok (.getfield 51, 3) := by decide +kernel
theorem dX9_stageIn_57 : decode cX9_stageIn 57 = .ok (.getfield 220, 3) := by decide +kernel
theorem dX9_stageIn_60 : decode cX9_stageIn 60 = .ok (.aload_n 0, 1) := by decide +kernel
theorem dX9_stageIn_61 : decode cX9_stageIn 61 = .ok (.getfield 12, 3) := by decide +kernel
theorem dX9_stageIn_64 : decode cX9_stageIn 64 = .ok (.getfield 129, 3) := by decide +kernel
theorem dX9_stageIn_67 : decode cX9_stageIn 67 = .ok (.getfield 235, 3) := by decide +kernel
theorem dX9_stageIn_70 : decode cX9_stageIn 70 = .ok (.iload_n 1, 1) := by decide +kernel
theorem dX9_stageIn_71 : decode cX9_stageIn 71 = .ok (.iaload, 1) := by decide +kernel
theorem dX9_stageIn_72 : decode cX9_stageIn 72 = .ok (.iaload, 1) := by decide +kernel
theorem dX9_stageIn_73 : decode cX9_stageIn 73 = .ok (.istore 4, 2) := by decide +kernel
theorem dX9_stageIn_75 : decode cX9_stageIn 75 = .ok (.iconst 0, 1) := by decide +kernel
theorem dX9_stageIn_76 : decode cX9_stageIn 76 = .ok (.istore 5, 2) := by decide +kernel
theorem dX9_stageIn_78 : decode cX9_stageIn 78 = .ok (.iload 5, 2) := by decide +kernel
theorem dX9_stageIn_80 : decode cX9_stageIn 80 = .ok (.iload_n 3, 1) := by decide +kernel
theorem dX9_stageIn_81 : decode cX9_stageIn 81 = .ok (.if_icmp .ge 32, 3) := by decide +kernel
theorem dX9_stageIn_84 : decode cX9_stageIn 84 = .ok (.aload_n 0, 1) := by decide +kernel
theorem dX9_stageIn_85 : decode cX9_stageIn 85 = .ok (.getfield 12, 3) := by decide +kernel
theorem dX9_stageIn_88 : decode cX9_stageIn 88 = .ok (.getfield 94, 3) := by decide +kernel
theorem dX9_stageIn_91 : decode cX9_stageIn 91 = .ok (.iload_n 3, 1) := by decide +kernel
theorem dX9_stageIn_92 : decode cX9_stageIn 92 = .ok (.iload 5, 2) := by decide +kernel
theorem dX9_stageIn_94 : decode cX9_stageIn 94 = .ok (.isub, 1) := by decide +kernel
theorem dX9_stageIn_95 : decode cX9_stageIn 95 = .ok (.iload 4, 2) := by decide +kernel
theorem dX9_stageIn_97 : decode cX9_stageIn 97 = .ok (.invokevirtual 317, 3) := by decide +kernel
theorem dX9_stageIn_100 : decode cX9_stageIn 100 = .ok (.iload_n 2, 1) := by decide +kernel
theorem dX9_stageIn_101 : decode cX9_stageIn 101 = .ok (.if_icmp .lt 6, 3) := by decide +kernel
theorem dX9_stageIn_104 : decode cX9_stageIn 104 = .ok (.iload 5, 2) := by decide +kernel
theorem dX9_stageIn_106 : decode cX9_stageIn 106 = .ok (.ireturn, 1) := by decide +kernel
theorem dX9_stageIn_107 : decode cX9_stageIn 107 = .ok (.iinc 5 1, 3) := by decide +kernel
theorem dX9_stageIn_110 : decode cX9_stageIn 110 = .ok (.goto (-32), 3) := by decide +kernel
theorem dX9_stageIn_113 : decode cX9_stageIn 113 = .ok (.bipush (-5), 2) := by decide +kernel
theorem dX9_stageIn_115 : decode cX9_stageIn 115 = .ok (.ireturn, 1) := by decide +kernel
set_option maxRecDepth 20000 in
theorem ggX9_event_X9_within : GoodIn wsX9_event wsX9_within := goodIn_r _ [11] (by decide +kernel) (by decide +kernel)
set_option maxRecDepth 20000 in
theorem gX9_event_X9_within : GoodIn wsX9_event (va_wsS RX9 47 yX9_within wsX9_within) := goodIn_app (goodIn_of _ (by decide +kernel)) ggX9_event_X9_within
set_option maxRecDepth 20000 in
theorem ggX9_event_X5_placeOf : GoodIn wsX9_event wsX5_placeOf := goodIn_r _ [16, 17, 18, 19, 20, 21, 39, 40, 41, 42, 43, 44] (by decide +kernel) (by decide +kernel)
set_option maxRecDepth 20000 in
theorem gX9_event_X5_placeOf : GoodIn wsX9_event (wsV RX9 327 RX5 yX5_placeOf wsX5_placeOf) := goodIn_app (goodIn_of _ (by decide +kernel)) ggX9_event_X5_placeOf
theorem dX9_event_0 : decode cX9_event 0 = .ok (.iload_n 1, 1) := by decide +kernel
theorem dX9_event_1 : decode cX9_event 1 = .ok (.ifCond .lt 12, 3) := by decide +kernel
theorem dX9_event_4 : decode cX9_event 4 = .ok (.iload_n 2, 1) := by decide +kernel
theorem dX9_event_5 : decode cX9_event 5 = .ok (.iconst 0, 1) := by decide +kernel
theorem dX9_event_6 : decode cX9_event 6 = .ok (.iconst 3, 1) := by decide +kernel
theorem dX9_event_7 : decode cX9_event 7 = .ok (.invokestatic 47, 3) := by decide +kernel
theorem dX9_event_10 : decode cX9_event 10 = .ok (.ifCond .ne 6, 3) := by decide +kernel
theorem dX9_event_13 : decode cX9_event 13 = .ok (.bipush (-2), 2) := by decide +kernel
theorem dX9_event_15 : decode cX9_event 15 = .ok (.ireturn, 1) := by decide +kernel
theorem dX9_event_16 : decode cX9_event 16 = .ok (.aload_n 0, 1) := by decide +kernel
theorem dX9_event_17 : decode cX9_event 17 = .ok (.getfield 12, 3) := by decide +kernel
theorem dX9_event_20 : decode cX9_event 20 = .ok (.getfield 320, 3) := by decide +kernel
theorem dX9_event_23 : decode cX9_event 23 = .ok (.astore_n 3, 1) := by decide +kernel
theorem dX9_event_24 : decode cX9_event 24 = .ok (.iload_n 1, 1) := by decide +kernel
theorem dX9_event_25 : decode cX9_event 25 = .ok (.aload_n 3, 1) := by decide +kernel
theorem dX9_event_26 : decode cX9_event 26 = .ok (.getfield 324, 3) := by decide +kernel
theorem dX9_event_29 : decode cX9_event 29 = .ok (.if_icmp .lt 6, 3) := by decide +kernel
theorem dX9_event_32 : decode cX9_event 32 = .ok (.bipush (-5), 2) := by decide +kernel
theorem dX9_event_34 : decode cX9_event 34 = .ok (.ireturn, 1) := by decide +kernel
theorem dX9_event_35 : decode cX9_event 35 = .ok (.aload_n 3, 1) := by decide +kernel
theorem dX9_event_36 : decode cX9_event 36 = .ok (.iload_n 1, 1) := by decide +kernel
theorem dX9_event_37 : decode cX9_event 37 = .ok (.invokevirtual 327, 3) := by decide +kernel
theorem dX9_event_40 : decode cX9_event 40 = .ok (.istore 4, 2) := by decide +kernel
theorem dX9_event_42 : decode cX9_event 42 = .ok (.iload_n 2, 1) := by decide +kernel
theorem dX9_event_43 : decode cX9_event 43 = .ok (.tableswitch 49 0 2 #[25, 33, 41], 25) := by decide +kernel
theorem dX9_event_68 : decode cX9_event 68 = .ok (.aload_n 3, 1) := by decide +kernel
theorem dX9_event_69 : decode cX9_event 69 = .ok (.getfield 330, 3) := by decide +kernel
theorem dX9_event_72 : decode cX9_event 72 = .ok (.iload 4, 2) := by decide +kernel
theorem dX9_event_74 : decode cX9_event 74 = .ok (.iaload, 1) := by decide +kernel
theorem dX9_event_75 : decode cX9_event 75 = .ok (.ireturn, 1) := by decide +kernel
theorem dX9_event_76 : decode cX9_event 76 = .ok (.aload_n 3, 1) := by decide +kernel
theorem dX9_event_77 : decode cX9_event 77 = .ok (.getfield 333, 3) := by decide +kernel
theorem dX9_event_80 : decode cX9_event 80 = .ok (.iload 4, 2) := by decide +kernel
theorem dX9_event_82 : decode cX9_event 82 = .ok (.iaload, 1) := by decide +kernel
theorem dX9_event_83 : decode cX9_event 83 = .ok (.ireturn, 1) := by decide +kernel
theorem dX9_event_84 : decode cX9_event 84 = .ok (.aload_n 3, 1) := by decide +kernel
theorem dX9_event_85 : decode cX9_event 85 = .ok (.getfield 336, 3) := by decide +kernel
theorem dX9_event_88 : decode cX9_event 88 = .ok (.iload 4, 2) := by decide +kernel
theorem dX9_event_90 : decode cX9_event 90 = .ok (.iaload, 1) := by decide +kernel
theorem dX9_event_91 : decode cX9_event 91 = .ok (.ireturn, 1) := by decide +kernel
theorem dX9_event_92 : decode cX9_event 92 = .ok (.aload_n 3, 1) := by decide +kernel
theorem dX9_event_93 : decode cX9_event 93 = .ok (.getfield 339, 3) := by decide +kernel
theorem dX9_event_96 : decode cX9_event 96 = .ok (.iload 4, 2) := by decide +kernel
theorem dX9_event_98 : decode cX9_event 98 = .ok (.iaload, 1) := by decide +kernel
theorem dX9_event_99 : decode cX9_event 99 = .ok (.ireturn, 1) := by decide +kernel
set_option maxRecDepth 20000 in
theorem ggX9_count_X0_sum : GoodIn wsX9_count wsX0_sum := goodIn_r _ [24, 25, 65, 66, 67, 68, 69, 70, 71, 72, 73] (by decide +kernel) (by decide +kernel)
set_option maxRecDepth 20000 in
theorem gX9_count_X0_sum : GoodIn wsX9_count (wsV RX9 340 RX0 yX0_sum wsX0_sum) := goodIn_app (goodIn_of _ (by decide +kernel)) ggX9_count_X0_sum
set_option maxRecDepth 20000 in
theorem ggX9_count_X0_wastedOfAll : GoodIn wsX9_count wsX0_wastedOfAll := goodIn_r _ [29, 30, 31, 21, 22, 23, 24, 25, 65, 66, 67, 68, 69, 70, 71, 72, 73] (by decide +kernel) (by decide +kernel)
set_option maxRecDepth 20000 in
theorem gX9_count_X0_wastedOfAll : GoodIn wsX9_count (wsV RX9 344 RX0 yX0_wastedOfAll wsX0_wastedOfAll) := goodIn_app (goodIn_of _ (by decide +kernel)) ggX9_count_X0_wastedOfAll
set_option maxRecDepth 20000 in
theorem ggX9_count_X6_sum : GoodIn wsX9_count wsX6_sum := goodIn_r _ [36, 37, 74, 75, 76, 77, 78, 79, 80, 81, 82, 83, 84, 85, 86, 87] (by decide +kernel) (by decide +kernel)
set_option maxRecDepth 20000 in
theorem gX9_count_X6_sum : GoodIn wsX9_count (wsV RX9 347 RX6 yX6_sum wsX6_sum) := goodIn_app (goodIn_of _ (by decide +kernel)) ggX9_count_X6_sum
set_option maxRecDepth 20000 in
theorem ggX9_count_X6_refused : GoodIn wsX9_count wsX6_refused := goodIn_r _ [41, 37, 42, 74, 75, 76, 77, 78, 79, 80, 81, 82, 83, 84, 85, 86, 87] (by decide +kernel) (by decide +kernel)
set_option maxRecDepth 20000 in
theorem gX9_count_X6_refused : GoodIn wsX9_count (wsV RX9 348 RX6 yX6_refused wsX6_refused) := goodIn_app (goodIn_of _ (by decide +kernel)) ggX9_count_X6_refused
theorem dX9_count_0 : decode cX9_count 0 = .ok (.aload_n 0, 1) := by decide +kernel
theorem dX9_count_1 : decode cX9_count 1 = .ok (.getfield 12, 3) := by decide +kernel
theorem dX9_count_4 : decode cX9_count 4 = .ok (.getfield 129, 3) := by decide +kernel
theorem dX9_count_7 : decode cX9_count 7 = .ok (.astore_n 2, 1) := by decide +kernel
theorem dX9_count_8 : decode cX9_count 8 = .ok (.aload_n 0, 1) := by decide +kernel
theorem dX9_count_9 : decode cX9_count 9 = .ok (.getfield 12, 3) := by decide +kernel
theorem dX9_count_12 : decode cX9_count 12 = .ok (.getfield 165, 3) := by decide +kernel
theorem dX9_count_15 : decode cX9_count 15 = .ok (.astore_n 3, 1) := by decide +kernel
theorem dX9_count_16 : decode cX9_count 16 = .ok (.iload_n 1, 1) := by decide +kernel
theorem dX9_count_17 : decode cX9_count 17 = .ok (.tableswitch 260 0 18 #[91, 99, 110, 115, 120, 129, 138, 147, 152, 163, 174, 185, 203, 208, 217, 227, 237, 247, 255], 91) := by decide +kernel
theorem dX9_count_108 : decode cX9_count 108 = .ok (.aload_n 0, 1) := by decide +kernel
theorem dX9_count_109 : decode cX9_count 109 = .ok (.getfield 12, 3) := by decide +kernel
theorem dX9_count_112 : decode cX9_count 112 = .ok (.getfield 172, 3) := by decide +kernel
theorem dX9_count_115 : decode cX9_count 115 = .ok (.ireturn, 1) := by decide +kernel
theorem dX9_count_116 : decode cX9_count 116 = .ok (.aload_n 0, 1) := by decide +kernel
theorem dX9_count_117 : decode cX9_count 117 = .ok (.getfield 12, 3) := by decide +kernel
theorem dX9_count_120 : decode cX9_count 120 = .ok (.getfield 51, 3) := by decide +kernel
theorem dX9_count_123 : decode cX9_count 123 = .ok (.getfield 55, 3) := by decide +kernel
theorem dX9_count_126 : decode cX9_count 126 = .ok (.ireturn, 1) := by decide +kernel
theorem dX9_count_127 : decode cX9_count 127 = .ok (.aload_n 2, 1) := by decide +kernel
theorem dX9_count_128 : decode cX9_count 128 = .ok (.getfield 133, 3) := by decide +kernel
theorem dX9_count_131 : decode cX9_count 131 = .ok (.ireturn, 1) := by decide +kernel
theorem dX9_count_132 : decode cX9_count 132 = .ok (.aload_n 3, 1) := by decide +kernel
theorem dX9_count_133 : decode cX9_count 133 = .ok (.getfield 169, 3) := by decide +kernel
theorem dX9_count_136 : decode cX9_count 136 = .ok (.ireturn, 1) := by decide +kernel
theorem dX9_count_137 : decode cX9_count 137 = .ok (.aload_n 2, 1) := by decide +kernel
theorem dX9_count_138 : decode cX9_count 138 = .ok (.aload_n 2, 1) := by decide +kernel
theorem dX9_count_139 : decode cX9_count 139 = .ok (.getfield 192, 3) := by decide +kernel
theorem dX9_count_142 : decode cX9_count 142 = .ok (.invokevirtual 340, 3) := by decide +kernel
theorem dX9_count_145 : decode cX9_count 145 = .ok (.ireturn, 1) := by decide +kernel
theorem dX9_count_146 : decode cX9_count 146 = .ok (.aload_n 2, 1) := by decide +kernel
theorem dX9_count_147 : decode cX9_count 147 = .ok (.aload_n 2, 1) := by decide +kernel
theorem dX9_count_148 : decode cX9_count 148 = .ok (.getfield 226, 3) := by decide +kernel
theorem dX9_count_151 : decode cX9_count 151 = .ok (.invokevirtual 340, 3) := by decide +kernel
theorem dX9_count_154 : decode cX9_count 154 = .ok (.ireturn, 1) := by decide +kernel
theorem dX9_count_155 : decode cX9_count 155 = .ok (.aload_n 2, 1) := by decide +kernel
theorem dX9_count_156 : decode cX9_count 156 = .ok (.aload_n 2, 1) := by decide +kernel
theorem dX9_count_157 : decode cX9_count 157 = .ok (.getfield 244, 3) := by decide +kernel
theorem dX9_count_160 : decode cX9_count 160 = .ok (.invokevirtual 340, 3) := by decide +kernel
theorem dX9_count_163 : decode cX9_count 163 = .ok (.ireturn, 1) := by decide +kernel
theorem dX9_count_164 : decode cX9_count 164 = .ok (.aload_n 2, 1) := by decide +kernel
theorem dX9_count_165 : decode cX9_count 165 = .ok (.invokevirtual 344, 3) := by decide +kernel
theorem dX9_count_168 : decode cX9_count 168 = .ok (.ireturn, 1) := by decide +kernel
theorem dX9_count_169 : decode cX9_count 169 = .ok (.aload_n 2, 1) := by decide +kernel
theorem dX9_count_170 : decode cX9_count 170 = .ok (.aload_n 2, 1) := by decide +kernel
theorem dX9_count_171 : decode cX9_count 171 = .ok (.getfield 250, 3) := by decide +kernel
theorem dX9_count_174 : decode cX9_count 174 = .ok (.iconst 0, 1) := by decide +kernel
theorem dX9_count_175 : decode cX9_count 175 = .ok (.aaload, 1) := by decide +kernel
theorem dX9_count_176 : decode cX9_count 176 = .ok (.invokevirtual 340, 3) := by decide +kernel
theorem dX9_count_179 : decode cX9_count 179 = .ok (.ireturn, 1) := by decide +kernel
theorem dX9_count_180 : decode cX9_count 180 = .ok (.aload_n 2, 1) := by decide +kernel
theorem dX9_count_181 : decode cX9_count 181 = .ok (.aload_n 2, 1) := by decide +kernel
theorem dX9_count_182 : decode cX9_count 182 = .ok (.getfield 250, 3) := by decide +kernel
theorem dX9_count_185 : decode cX9_count 185 = .ok (.iconst 1, 1) := by decide +kernel
theorem dX9_count_186 : decode cX9_count 186 = .ok (.aaload, 1) := by decide +kernel
theorem dX9_count_187 : decode cX9_count 187 = .ok (.invokevirtual 340, 3) := by decide +kernel
theorem dX9_count_190 : decode cX9_count 190 = .ok (.ireturn, 1) := by decide +kernel
theorem dX9_count_191 : decode cX9_count 191 = .ok (.aload_n 2, 1) := by decide +kernel
theorem dX9_count_192 : decode cX9_count 192 = .ok (.aload_n 2, 1) := by decide +kernel
theorem dX9_count_193 : decode cX9_count 193 = .ok (.getfield 250, 3) := by decide +kernel
theorem dX9_count_196 : decode cX9_count 196 = .ok (.iconst 2, 1) := by decide +kernel
theorem dX9_count_197 : decode cX9_count 197 = .ok (.aaload, 1) := by decide +kernel
theorem dX9_count_198 : decode cX9_count 198 = .ok (.invokevirtual 340, 3) := by decide +kernel
theorem dX9_count_201 : decode cX9_count 201 = .ok (.ireturn, 1) := by decide +kernel
theorem dX9_count_202 : decode cX9_count 202 = .ok (.aload_n 3, 1) := by decide +kernel
theorem dX9_count_203 : decode cX9_count 203 = .ok (.aload_n 3, 1) := by decide +kernel
theorem dX9_count_204 : decode cX9_count 204 = .ok (.getfield 280, 3) := by decide +kernel
theorem dX9_count_207 : decode cX9_count 207 = .ok (.invokevirtual 347, 3) := by decide +kernel
theorem dX9_count_210 : decode cX9_count 210 = .ok (.aload_n 3, 1) := by decide +kernel
theorem dX9_count_211 : decode cX9_count 211 = .ok (.aload_n 3, 1) := by decide +kernel
theorem dX9_count_212 : decode cX9_count 212 = .ok (.getfield 283, 3) := by decide +kernel
theorem dX9_count_215 : decode cX9_count 215 = .ok (.invokevirtual 347, 3) := by decide +kernel
theorem dX9_count_218 : decode cX9_count 218 = .ok (.isub, 1) := by decide +kernel
theorem dX9_count_219 : decode cX9_count 219 = .ok (.ireturn, 1) := by decide +kernel
theorem dX9_count_220 : decode cX9_count 220 = .ok (.aload_n 3, 1) := by decide +kernel
theorem dX9_count_221 : decode cX9_count 221 = .ok (.invokevirtual 348, 3) := by decide +kernel
theorem dX9_count_224 : decode cX9_count 224 = .ok (.ireturn, 1) := by decide +kernel
theorem dX9_count_225 : decode cX9_count 225 = .ok (.aload_n 3, 1) := by decide +kernel
theorem dX9_count_226 : decode cX9_count 226 = .ok (.aload_n 3, 1) := by decide +kernel
theorem dX9_count_227 : decode cX9_count 227 = .ok (.getfield 297, 3) := by decide +kernel
theorem dX9_count_230 : decode cX9_count 230 = .ok (.invokevirtual 347, 3) := by decide +kernel
theorem dX9_count_233 : decode cX9_count 233 = .ok (.ireturn, 1) := by decide +kernel
theorem dX9_count_234 : decode cX9_count 234 = .ok (.aload_n 0, 1) := by decide +kernel
theorem dX9_count_235 : decode cX9_count 235 = .ok (.getfield 12, 3) := by decide +kernel
theorem dX9_count_238 : decode cX9_count 238 = .ok (.getfield 118, 3) := by decide +kernel
theorem dX9_count_241 : decode cX9_count 241 = .ok (.iconst 0, 1) := by decide +kernel
theorem dX9_count_242 : decode cX9_count 242 = .ok (.iaload, 1) := by decide +kernel
theorem dX9_count_243 : decode cX9_count 243 = .ok (.ireturn, 1) := by decide +kernel
theorem dX9_count_244 : decode cX9_count 244 = .ok (.aload_n 0, 1) := by decide +kernel
theorem dX9_count_245 : decode cX9_count 245 = .ok (.getfield 12, 3) := by decide +kernel
theorem dX9_count_248 : decode cX9_count 248 = .ok (.getfield 118, 3) := by decide +kernel
theorem dX9_count_251 : decode cX9_count 251 = .ok (.iconst 1, 1) := by decide +kernel
theorem dX9_count_252 : decode cX9_count 252 = .ok (.iaload, 1) := by decide +kernel
theorem dX9_count_253 : decode cX9_count 253 = .ok (.ireturn, 1) := by decide +kernel
theorem dX9_count_254 : decode cX9_count 254 = .ok (.aload_n 0, 1) := by decide +kernel
theorem dX9_count_255 : decode cX9_count 255 = .ok (.getfield 12, 3) := by decide +kernel
theorem dX9_count_258 : decode cX9_count 258 = .ok (.getfield 118, 3) := by decide +kernel
theorem dX9_count_261 : decode cX9_count 261 = .ok (.iconst 2, 1) := by decide +kernel
theorem dX9_count_262 : decode cX9_count 262 = .ok (.iaload, 1) := by decide +kernel
theorem dX9_count_263 : decode cX9_count 263 = .ok (.ireturn, 1) := by decide +kernel
theorem dX9_count_264 : decode cX9_count 264 = .ok (.aload_n 0, 1) := by decide +kernel
theorem dX9_count_265 : decode cX9_count 265 = .ok (.getfield 25, 3) := by decide +kernel
theorem dX9_count_268 : decode cX9_count 268 = .ok (.getfield 209, 3) := by decide +kernel
theorem dX9_count_271 : decode cX9_count 271 = .ok (.ireturn, 1) := by decide +kernel
theorem dX9_count_272 : decode cX9_count 272 = .ok (.aload_n 0, 1) := by decide +kernel
theorem dX9_count_273 : decode cX9_count 273 = .ok (.getfield 140, 3) := by decide +kernel
theorem dX9_count_276 : decode cX9_count 276 = .ok (.ireturn, 1) := by decide +kernel
theorem dX9_count_277 : decode cX9_count 277 = .ok (.bipush (-2), 2) := by decide +kernel
theorem dX9_count_279 : decode cX9_count 279 = .ok (.ireturn, 1) := by decide +kernel
theorem dX9_within_0 : decode cX9_within 0 = .ok (.iload_n 0, 1) := by decide +kernel
theorem dX9_within_1 : decode cX9_within 1 = .ok (.iload_n 1, 1) := by decide +kernel
theorem dX9_within_2 : decode cX9_within 2 = .ok (.if_icmp .lt 12, 3) := by decide +kernel
theorem dX9_within_5 : decode cX9_within 5 = .ok (.iload_n 0, 1) := by decide +kernel
theorem dX9_within_6 : decode cX9_within 6 = .ok (.iload_n 2, 1) := by decide +kernel
theorem dX9_within_7 : decode cX9_within 7 = .ok (.if_icmp .gt 7, 3) := by decide +kernel
theorem dX9_within_10 : decode cX9_within 10 = .ok (.iconst 1, 1) := by decide +kernel
theorem dX9_within_11 : decode cX9_within 11 = .ok (.goto 4, 3) := by decide +kernel
theorem dX9_within_14 : decode cX9_within 14 = .ok (.iconst 0, 1) := by decide +kernel
theorem dX9_within_15 : decode cX9_within 15 = .ok (.ireturn, 1) := by decide +kernel
set_option maxRecDepth 20000 in
theorem ggX9_hasGood_X9_within : GoodIn wsX9_hasGood wsX9_within := goodIn_r _ [7] (by decide +kernel) (by decide +kernel)
set_option maxRecDepth 20000 in
theorem gX9_hasGood_X9_within : GoodIn wsX9_hasGood (va_wsS RX9 47 yX9_within wsX9_within) := goodIn_app (goodIn_of _ (by decide +kernel)) ggX9_hasGood_X9_within
theorem dX9_hasGood_0 : decode cX9_hasGood 0 = .ok (.iload_n 1, 1) := by decide +kernel
theorem dX9_hasGood_1 : decode cX9_hasGood 1 = .ok (.iconst 0, 1) := by decide +kernel
theorem dX9_hasGood_2 : decode cX9_hasGood 2 = .ok (.aload_n 0, 1) := by decide +kernel
theorem dX9_hasGood_3 : decode cX9_hasGood 3 = .ok (.getfield 12, 3) := by decide +kernel
theorem dX9_hasGood_6 : decode cX9_hasGood 6 = .ok (.getfield 51, 3) := by decide +kernel
theorem dX9_hasGood_9 : decode cX9_hasGood 9 = .ok (.getfield 55, 3) := by decide +kernel
theorem dX9_hasGood_12 : decode cX9_hasGood 12 = .ok (.iconst 1, 1) := by decide +kernel
theorem dX9_hasGood_13 : decode cX9_hasGood 13 = .ok (.isub, 1) := by decide +kernel
theorem dX9_hasGood_14 : decode cX9_hasGood 14 = .ok (.invokestatic 47, 3) := by decide +kernel
theorem dX9_hasGood_17 : decode cX9_hasGood 17 = .ok (.ireturn, 1) := by decide +kernel
set_option maxRecDepth 20000 in
theorem ggX9_hasBatch_X9_within : GoodIn wsX9_hasBatch wsX9_within := goodIn_r _ [7] (by decide +kernel) (by decide +kernel)
set_option maxRecDepth 20000 in
theorem gX9_hasBatch_X9_within : GoodIn wsX9_hasBatch (va_wsS RX9 47 yX9_within wsX9_within) := goodIn_app (goodIn_of _ (by decide +kernel)) ggX9_hasBatch_X9_within
theorem dX9_hasBatch_0 : decode cX9_hasBatch 0 = .ok (.iload_n 1, 1) := by decide +kernel
theorem dX9_hasBatch_1 : decode cX9_hasBatch 1 = .ok (.iconst 0, 1) := by decide +kernel
theorem dX9_hasBatch_2 : decode cX9_hasBatch 2 = .ok (.aload_n 0, 1) := by decide +kernel
theorem dX9_hasBatch_3 : decode cX9_hasBatch 3 = .ok (.getfield 12, 3) := by decide +kernel
theorem dX9_hasBatch_6 : decode cX9_hasBatch 6 = .ok (.getfield 129, 3) := by decide +kernel
theorem dX9_hasBatch_9 : decode cX9_hasBatch 9 = .ok (.getfield 133, 3) := by decide +kernel
theorem dX9_hasBatch_12 : decode cX9_hasBatch 12 = .ok (.iconst 1, 1) := by decide +kernel
theorem dX9_hasBatch_13 : decode cX9_hasBatch 13 = .ok (.isub, 1) := by decide +kernel
theorem dX9_hasBatch_14 : decode cX9_hasBatch 14 = .ok (.invokestatic 47, 3) := by decide +kernel
theorem dX9_hasBatch_17 : decode cX9_hasBatch 17 = .ok (.ireturn, 1) := by decide +kernel
set_option maxRecDepth 20000 in
theorem ggX9_hasOrder_X9_within : GoodIn wsX9_hasOrder wsX9_within := goodIn_r _ [7] (by decide +kernel) (by decide +kernel)
set_option maxRecDepth 20000 in
theorem gX9_hasOrder_X9_within : GoodIn wsX9_hasOrder (va_wsS RX9 47 yX9_within wsX9_within) := goodIn_app (goodIn_of _ (by decide +kernel)) ggX9_hasOrder_X9_within
theorem dX9_hasOrder_0 : decode cX9_hasOrder 0 = .ok (.iload_n 1, 1) := by decide +kernel
theorem dX9_hasOrder_1 : decode cX9_hasOrder 1 = .ok (.iconst 0, 1) := by decide +kernel
theorem dX9_hasOrder_2 : decode cX9_hasOrder 2 = .ok (.aload_n 0, 1) := by decide +kernel
theorem dX9_hasOrder_3 : decode cX9_hasOrder 3 = .ok (.getfield 12, 3) := by decide +kernel
theorem dX9_hasOrder_6 : decode cX9_hasOrder 6 = .ok (.getfield 165, 3) := by decide +kernel
theorem dX9_hasOrder_9 : decode cX9_hasOrder 9 = .ok (.getfield 169, 3) := by decide +kernel
theorem dX9_hasOrder_12 : decode cX9_hasOrder 12 = .ok (.iconst 1, 1) := by decide +kernel
theorem dX9_hasOrder_13 : decode cX9_hasOrder 13 = .ok (.isub, 1) := by decide +kernel
theorem dX9_hasOrder_14 : decode cX9_hasOrder 14 = .ok (.invokestatic 47, 3) := by decide +kernel
theorem dX9_hasOrder_17 : decode cX9_hasOrder 17 = .ok (.ireturn, 1) := by decide +kernel
set_option maxRecDepth 20000 in
theorem ggX9_isStage_X9_within : GoodIn wsX9_isStage wsX9_within := goodIn_r _ [4] (by decide +kernel) (by decide +kernel)
set_option maxRecDepth 20000 in
theorem gX9_isStage_X9_within : GoodIn wsX9_isStage (va_wsS RX9 47 yX9_within wsX9_within) := goodIn_app (goodIn_of _ (by decide +kernel)) ggX9_isStage_X9_within
theorem dX9_isStage_0 : decode cX9_isStage 0 = .ok (.iload_n 0, 1) := by decide +kernel
theorem dX9_isStage_1 : decode cX9_isStage 1 = .ok (.iconst 0, 1) := by decide +kernel
theorem dX9_isStage_2 : decode cX9_isStage 2 = .ok (.iconst 3, 1) := by decide +kernel
theorem dX9_isStage_3 : decode cX9_isStage 3 = .ok (.invokestatic 47, 3) := by decide +kernel
theorem dX9_isStage_6 : decode cX9_isStage 6 = .ok (.ireturn, 1) := by decide +kernel
set_option maxRecDepth 20000 in
theorem ggX9_isSetting_X9_within : GoodIn wsX9_isSetting wsX9_within := goodIn_r _ [4] (by decide +kernel) (by decide +kernel)
set_option maxRecDepth 20000 in
theorem gX9_isSetting_X9_within : GoodIn wsX9_isSetting (va_wsS RX9 47 yX9_within wsX9_within) := goodIn_app (goodIn_of _ (by decide +kernel)) ggX9_isSetting_X9_within
theorem dX9_isSetting_0 : decode cX9_isSetting 0 = .ok (.iload_n 0, 1) := by decide +kernel
theorem dX9_isSetting_1 : decode cX9_isSetting 1 = .ok (.tableswitch 50 0 2 #[27, 34, 41], 27) := by decide +kernel
theorem dX9_isSetting_28 : decode cX9_isSetting 28 = .ok (.iload_n 1, 1) := by decide +kernel
theorem dX9_isSetting_29 : decode cX9_isSetting 29 = .ok (.iconst 0, 1) := by decide +kernel
theorem dX9_isSetting_30 : decode cX9_isSetting 30 = .ok (.iconst 2, 1) := by decide +kernel
theorem dX9_isSetting_31 : decode cX9_isSetting 31 = .ok (.invokestatic 47, 3) := by decide +kernel
theorem dX9_isSetting_34 : decode cX9_isSetting 34 = .ok (.ireturn, 1) := by decide +kernel
theorem dX9_isSetting_35 : decode cX9_isSetting 35 = .ok (.iload_n 1, 1) := by decide +kernel
theorem dX9_isSetting_36 : decode cX9_isSetting 36 = .ok (.iconst 1, 1) := by decide +kernel
theorem dX9_isSetting_37 : decode cX9_isSetting 37 = .ok (.iconst 4, 1) := by decide +kernel
theorem dX9_isSetting_38 : decode cX9_isSetting 38 = .ok (.invokestatic 47, 3) := by decide +kernel
theorem dX9_isSetting_41 : decode cX9_isSetting 41 = .ok (.ireturn, 1) := by decide +kernel
theorem dX9_isSetting_42 : decode cX9_isSetting 42 = .ok (.iload_n 1, 1) := by decide +kernel
theorem dX9_isSetting_43 : decode cX9_isSetting 43 = .ok (.iconst 0, 1) := by decide +kernel
theorem dX9_isSetting_44 : decode cX9_isSetting 44 = .ok (.sipush 999, 3) := by decide +kernel
theorem dX9_isSetting_47 : decode cX9_isSetting 47 = .ok (.invokestatic 47, 3) := by decide +kernel
theorem dX9_isSetting_50 : decode cX9_isSetting 50 = .ok (.ireturn, 1) := by decide +kernel
theorem dX9_isSetting_51 : decode cX9_isSetting 51 = .ok (.iconst 0, 1) := by decide +kernel
theorem dX9_isSetting_52 : decode cX9_isSetting 52 = .ok (.ireturn, 1) := by decide +kernel
set_option maxRecDepth 20000 in
theorem ggX9_isSupply_X9_within : GoodIn wsX9_isSupply wsX9_within := goodIn_r _ [7] (by decide +kernel) (by decide +kernel)
set_option maxRecDepth 20000 in
theorem gX9_isSupply_X9_within : GoodIn wsX9_isSupply (va_wsS RX9 47 yX9_within wsX9_within) := goodIn_app (goodIn_of _ (by decide +kernel)) ggX9_isSupply_X9_within
theorem dX9_isSupply_0 : decode cX9_isSupply 0 = .ok (.iload_n 2, 1) := by decide +kernel
theorem dX9_isSupply_1 : decode cX9_isSupply 1 = .ok (.iconst 1, 1) := by decide +kernel
theorem dX9_isSupply_2 : decode cX9_isSupply 2 = .ok (.sipush 999, 3) := by decide +kernel
theorem dX9_isSupply_5 : decode cX9_isSupply 5 = .ok (.invokestatic 47, 3) := by decide +kernel
theorem dX9_isSupply_8 : decode cX9_isSupply 8 = .ok (.ifCond .eq 27, 3) := by decide +kernel
theorem dX9_isSupply_11 : decode cX9_isSupply 11 = .ok (.iload_n 3, 1) := by decide +kernel
theorem dX9_isSupply_12 : decode cX9_isSupply 12 = .ok (.iconst 1, 1) := by decide +kernel
theorem dX9_isSupply_13 : decode cX9_isSupply 13 = .ok (.aload_n 0, 1) := by decide +kernel
theorem dX9_isSupply_14 : decode cX9_isSupply 14 = .ok (.getfield 12, 3) := by decide +kernel
theorem dX9_isSupply_17 : decode cX9_isSupply 17 = .ok (.getfield 51, 3) := by decide +kernel
theorem dX9_isSupply_20 : decode cX9_isSupply 20 = .ok (.getfield 220, 3) := by decide +kernel
theorem dX9_isSupply_23 : decode cX9_isSupply 23 = .ok (.iload_n 1, 1) := by decide +kernel
theorem dX9_isSupply_24 : decode cX9_isSupply 24 = .ok (.iaload, 1) := by decide +kernel
theorem dX9_isSupply_25 : decode cX9_isSupply 25 = .ok (.invokestatic 47, 3) := by decide +kernel
theorem dX9_isSupply_28 : decode cX9_isSupply 28 = .ok (.ifCond .eq 7, 3) := by decide +kernel
theorem dX9_isSupply_31 : decode cX9_isSupply 31 = .ok (.iconst 1, 1) := by decide +kernel
theorem dX9_isSupply_32 : decode cX9_isSupply 32 = .ok (.goto 4, 3) := by decide +kernel
theorem dX9_isSupply_35 : decode cX9_isSupply 35 = .ok (.iconst 0, 1) := by decide +kernel
theorem dX9_isSupply_36 : decode cX9_isSupply 36 = .ok (.ireturn, 1) := by decide +kernel
set_option maxRecDepth 20000 in
theorem ggX9_placeError_X9_hasGood : GoodIn wsX9_placeError wsX9_hasGood := goodIn_r _ [8, 1, 2, 9, 10, 11, 7, 12, 13, 14, 15, 16, 17, 18, 19, 20, 21, 22, 23, 24, 25, 26, 27, 28, 29, 30, 31, 32, 33, 34] (by decide +kernel) (by decide +kernel)
set_option maxRecDepth 20000 in
theorem gX9_placeError_X9_hasGood : GoodIn wsX9_placeError (wsV RX9 69 RX9 yX9_hasGood wsX9_hasGood) := goodIn_app (goodIn_of _ (by decide +kernel)) ggX9_placeError_X9_hasGood
theorem dX9_placeError_0 : decode cX9_placeError 0 = .ok (.aload_n 0, 1) := by decide +kernel
theorem dX9_placeError_1 : decode cX9_placeError 1 = .ok (.iload_n 1, 1) := by decide +kernel
theorem dX9_placeError_2 : decode cX9_placeError 2 = .ok (.invokevirtual 69, 3) := by decide +kernel
theorem dX9_placeError_5 : decode cX9_placeError 5 = .ok (.ifCond .ne 5, 3) := by decide +kernel
theorem dX9_placeError_8 : decode cX9_placeError 8 = .ok (.iconst (-1), 1) := by decide +kernel
theorem dX9_placeError_9 : decode cX9_placeError 9 = .ok (.ireturn, 1) := by decide +kernel
theorem dX9_placeError_10 : decode cX9_placeError 10 = .ok (.iload_n 2, 1) := by decide +kernel
theorem dX9_placeError_11 : decode cX9_placeError 11 = .ok (.ifCond .ge 6, 3) := by decide +kernel
theorem dX9_placeError_14 : decode cX9_placeError 14 = .ok (.bipush (-2), 2) := by decide +kernel
theorem dX9_placeError_16 : decode cX9_placeError 16 = .ok (.ireturn, 1) := by decide +kernel
theorem dX9_placeError_17 : decode cX9_placeError 17 = .ok (.iload_n 2, 1) := by decide +kernel
theorem dX9_placeError_18 : decode cX9_placeError 18 = .ok (.aload_n 0, 1) := by decide +kernel
theorem dX9_placeError_19 : decode cX9_placeError 19 = .ok (.getfield 12, 3) := by decide +kernel
theorem dX9_placeError_22 : decode cX9_placeError 22 = .ok (.getfield 51, 3) := by decide +kernel
theorem dX9_placeError_25 : decode cX9_placeError 25 = .ok (.getfield 77, 3) := by decide +kernel
theorem dX9_placeError_28 : decode cX9_placeError 28 = .ok (.iload_n 1, 1) := by decide +kernel
theorem dX9_placeError_29 : decode cX9_placeError 29 = .ok (.iaload, 1) := by decide +kernel
theorem dX9_placeError_30 : decode cX9_placeError 30 = .ok (.if_icmp .ge 7, 3) := by decide +kernel
theorem dX9_placeError_33 : decode cX9_placeError 33 = .ok (.iconst 0, 1) := by decide +kernel
theorem dX9_placeError_34 : decode cX9_placeError 34 = .ok (.goto 5, 3) := by decide +kernel
theorem dX9_placeError_37 : decode cX9_placeError 37 = .ok (.bipush (-5), 2) := by decide +kernel
theorem dX9_placeError_39 : decode cX9_placeError 39 = .ok (.ireturn, 1) := by decide +kernel
set_option maxRecDepth 20000 in
theorem ggX9_wishError_X9_hasGood : GoodIn wsX9_wishError wsX9_hasGood := goodIn_r _ [5, 6, 7, 8, 9, 10, 4, 11, 12, 13, 14, 15, 16, 17, 18, 19, 20, 21, 22, 23, 24, 25, 26, 27, 28, 29, 30, 31, 32, 33] (by decide +kernel) (by decide +kernel)
set_option maxRecDepth 20000 in
theorem gX9_wishError_X9_hasGood : GoodIn wsX9_wishError (wsV RX9 69 RX9 yX9_hasGood wsX9_hasGood) := goodIn_app (goodIn_of _ (by decide +kernel)) ggX9_wishError_X9_hasGood
set_option maxRecDepth 20000 in
theorem ggX9_wishError_X9_within : GoodIn wsX9_wishError wsX9_within := goodIn_r _ [11] (by decide +kernel) (by decide +kernel)
set_option maxRecDepth 20000 in
theorem gX9_wishError_X9_within : GoodIn wsX9_wishError (va_wsS RX9 47 yX9_within wsX9_within) := goodIn_app (goodIn_of _ (by decide +kernel)) ggX9_wishError_X9_within
theorem dX9_wishError_0 : decode cX9_wishError 0 = .ok (.aload_n 0, 1) := by decide +kernel
theorem dX9_wishError_1 : decode cX9_wishError 1 = .ok (.iload_n 1, 1) := by decide +kernel
theorem dX9_wishError_2 : decode cX9_wishError 2 = .ok (.invokevirtual 69, 3) := by decide +kernel
theorem dX9_wishError_5 : decode cX9_wishError 5 = .ok (.ifCond .ne 5, 3) := by decide +kernel
theorem dX9_wishError_8 : decode cX9_wishError 8 = .ok (.iconst (-1), 1) := by decide +kernel
theorem dX9_wishError_9 : decode cX9_wishError 9 = .ok (.ireturn, 1) := by decide +kernel
theorem dX9_wishError_10 : decode cX9_wishError 10 = .ok (.iload_n 2, 1) := by decide +kernel
theorem dX9_wishError_11 : decode cX9_wishError 11 = .ok (.iconst 1, 1) := by decide +kernel
theorem dX9_wishError_12 : decode cX9_wishError 12 = .ok (.sipush 999, 3) := by decide +kernel
theorem dX9_wishError_15 : decode cX9_wishError 15 = .ok (.invokestatic 47, 3) := by decide +kernel
theorem dX9_wishError_18 : decode cX9_wishError 18 = .ok (.ifCond .eq 17, 3) := by decide +kernel
theorem dX9_wishError_21 : decode cX9_wishError 21 = .ok (.iload_n 3, 1) := by decide +kernel
theorem dX9_wishError_22 : decode cX9_wishError 22 = .ok (.iconst 0, 1) := by decide +kernel
theorem dX9_wishError_23 : decode cX9_wishError 23 = .ok (.bipush 60, 2) := by decide +kernel
theorem dX9_wishError_25 : decode cX9_wishError 25 = .ok (.invokestatic 47, 3) := by decide +kernel
theorem dX9_wishError_28 : decode cX9_wishError 28 = .ok (.ifCond .eq 7, 3) := by decide +kernel
theorem dX9_wishError_31 : decode cX9_wishError 31 = .ok (.iconst 1, 1) := by decide +kernel
theorem dX9_wishError_32 : decode cX9_wishError 32 = .ok (.goto 4, 3) := by decide +kernel
theorem dX9_wishError_35 : decode cX9_wishError 35 = .ok (.iconst 0, 1) := by decide +kernel
theorem dX9_wishError_36 : decode cX9_wishError 36 = .ok (.istore 4, 2) := by decide +kernel
theorem dX9_wishError_38 : decode cX9_wishError 38 = .ok (.iload 4, 2) := by decide +kernel
theorem dX9_wishError_40 : decode cX9_wishError 40 = .ok (.ifCond .eq 7, 3) := by decide +kernel
theorem dX9_wishError_43 : decode cX9_wishError 43 = .ok (.iconst 0, 1) := by decide +kernel
theorem dX9_wishError_44 : decode cX9_wishError 44 = .ok (.goto 5, 3) := by decide +kernel
theorem dX9_wishError_47 : decode cX9_wishError 47 = .ok (.bipush (-2), 2) := by decide +kernel
theorem dX9_wishError_49 : decode cX9_wishError 49 = .ok (.ireturn, 1) := by decide +kernel
theorem dX9_floatOfBits_0 : decode cX9_floatOfBits 0 = .ok (.iload_n 0, 1) := by decide +kernel
theorem dX9_floatOfBits_1 : decode cX9_floatOfBits 1 = .ok (.bipush 23, 2) := by decide +kernel
theorem dX9_floatOfBits_3 : decode cX9_floatOfBits 3 = .ok (.ishr, 1) := by decide +kernel
theorem dX9_floatOfBits_4 : decode cX9_floatOfBits 4 = .ok (.istore_n 1, 1) := by decide +kernel
theorem dX9_floatOfBits_5 : decode cX9_floatOfBits 5 = .ok (.iload_n 0, 1) := by decide +kernel
theorem dX9_floatOfBits_6 : decode cX9_floatOfBits 6 = .ok (.ldc_w 353, 3) := by decide +kernel
theorem dX9_floatOfBits_9 : decode cX9_floatOfBits 9 = .ok (.iand, 1) := by decide +kernel
theorem dX9_floatOfBits_10 : decode cX9_floatOfBits 10 = .ok (.istore_n 2, 1) := by decide +kernel
theorem dX9_floatOfBits_11 : decode cX9_floatOfBits 11 = .ok (.iload_n 1, 1) := by decide +kernel
theorem dX9_floatOfBits_12 : decode cX9_floatOfBits 12 = .ok (.ifCond .ne 8, 3) := by decide +kernel
theorem dX9_floatOfBits_15 : decode cX9_floatOfBits 15 = .ok (.iconst 1, 1) := by decide +kernel
theorem dX9_floatOfBits_16 : decode cX9_floatOfBits 16 = .ok (.istore_n 1, 1) := by decide +kernel
theorem dX9_floatOfBits_17 : decode cX9_floatOfBits 17 = .ok (.goto 9, 3) := by decide +kernel
theorem dX9_floatOfBits_20 : decode cX9_floatOfBits 20 = .ok (.iload_n 2, 1) := by decide +kernel
theorem dX9_floatOfBits_21 : decode cX9_floatOfBits 21 = .ok (.ldc_w 354, 3) := by decide +kernel
theorem dX9_floatOfBits_24 : decode cX9_floatOfBits 24 = .ok (.ior, 1) := by decide +kernel
theorem dX9_floatOfBits_25 : decode cX9_floatOfBits 25 = .ok (.istore_n 2, 1) := by decide +kernel
theorem dX9_floatOfBits_26 : decode cX9_floatOfBits 26 = .ok (.iload_n 2, 1) := by decide +kernel
theorem dX9_floatOfBits_27 : decode cX9_floatOfBits 27 = .ok (.i2f, 1) := by decide +kernel
theorem dX9_floatOfBits_28 : decode cX9_floatOfBits 28 = .ok (.fstore_n 3, 1) := by decide +kernel
theorem dX9_floatOfBits_29 : decode cX9_floatOfBits 29 = .ok (.iload_n 1, 1) := by decide +kernel
theorem dX9_floatOfBits_30 : decode cX9_floatOfBits 30 = .ok (.istore 4, 2) := by decide +kernel
theorem dX9_floatOfBits_32 : decode cX9_floatOfBits 32 = .ok (.iload 4, 2) := by decide +kernel
theorem dX9_floatOfBits_34 : decode cX9_floatOfBits 34 = .ok (.sipush 150, 3) := by decide +kernel
theorem dX9_floatOfBits_37 : decode cX9_floatOfBits 37 = .ok (.if_icmp .ge 15, 3) := by decide +kernel
theorem dX9_floatOfBits_40 : decode cX9_floatOfBits 40 = .ok (.fload_n 3, 1) := by decide +kernel
theorem dX9_floatOfBits_41 : decode cX9_floatOfBits 41 = .ok (.ldc_w 355, 3) := by decide +kernel
theorem dX9_floatOfBits_44 : decode cX9_floatOfBits 44 = .ok (.fmul, 1) := by decide +kernel
theorem dX9_floatOfBits_45 : decode cX9_floatOfBits 45 = .ok (.fstore_n 3, 1) := by decide +kernel
theorem dX9_floatOfBits_46 : decode cX9_floatOfBits 46 = .ok (.iinc 4 1, 3) := by decide +kernel
theorem dX9_floatOfBits_49 : decode cX9_floatOfBits 49 = .ok (.goto (-17), 3) := by decide +kernel
theorem dX9_floatOfBits_52 : decode cX9_floatOfBits 52 = .ok (.fload_n 3, 1) := by decide +kernel
theorem dX9_floatOfBits_53 : decode cX9_floatOfBits 53 = .ok (.freturn, 1) := by decide +kernel
theorem dX9_notANumber_0 : decode cX9_notANumber 0 = .ok (.ldc_w 356, 3) := by decide +kernel
theorem dX9_notANumber_3 : decode cX9_notANumber 3 = .ok (.freturn, 1) := by decide +kernel
theorem dX9_copyRow_0 : decode cX9_copyRow 0 = .ok (.aload_n 0, 1) := by decide +kernel
theorem dX9_copyRow_1 : decode cX9_copyRow 1 = .ok (.iconst 0, 1) := by decide +kernel
theorem dX9_copyRow_2 : decode cX9_copyRow 2 = .ok (.aload_n 1, 1) := by decide +kernel
theorem dX9_copyRow_3 : decode cX9_copyRow 3 = .ok (.iconst 0, 1) := by decide +kernel
theorem dX9_copyRow_4 : decode cX9_copyRow 4 = .ok (.aload_n 0, 1) := by decide +kernel
theorem dX9_copyRow_5 : decode cX9_copyRow 5 = .ok (.arraylength, 1) := by decide +kernel
theorem dX9_copyRow_6 : decode cX9_copyRow 6 = .ok (.aload_n 1, 1) := by decide +kernel
theorem dX9_copyRow_7 : decode cX9_copyRow 7 = .ok (.arraylength, 1) := by decide +kernel
theorem dX9_copyRow_8 : decode cX9_copyRow 8 = .ok (.invokestatic 357, 3) := by decide +kernel
theorem dX9_copyRow_11 : decode cX9_copyRow 11 = .ok (.invokestatic 362, 3) := by decide +kernel
theorem dX9_copyRow_14 : decode cX9_copyRow 14 = .ok (.return_, 1) := by decide +kernel
theorem dJ9_floorMod_7cf53_0 : decode cJ9_floorMod_7cf53 0 = .ok (.iload_n 0, 1) := by decide +kernel
theorem dJ9_floorMod_7cf53_1 : decode cJ9_floorMod_7cf53 1 = .ok (.iload_n 1, 1) := by decide +kernel
theorem dJ9_floorMod_7cf53_2 : decode cJ9_floorMod_7cf53 2 = .ok (.irem, 1) := by decide +kernel
theorem dJ9_floorMod_7cf53_3 : decode cJ9_floorMod_7cf53 3 = .ok (.istore_n 2, 1) := by decide +kernel
theorem dJ9_floorMod_7cf53_4 : decode cJ9_floorMod_7cf53 4 = .ok (.iload_n 0, 1) := by decide +kernel
theorem dJ9_floorMod_7cf53_5 : decode cJ9_floorMod_7cf53 5 = .ok (.iload_n 1, 1) := by decide +kernel
theorem dJ9_floorMod_7cf53_6 : decode cJ9_floorMod_7cf53 6 = .ok (.ixor, 1) := by decide +kernel
theorem dJ9_floorMod_7cf53_7 : decode cJ9_floorMod_7cf53 7 = .ok (.ifCond .ge 11, 3) := by decide +kernel
theorem dJ9_floorMod_7cf53_10 : decode cJ9_floorMod_7cf53 10 = .ok (.iload_n 2, 1) := by decide +kernel
theorem dJ9_floorMod_7cf53_11 : decode cJ9_floorMod_7cf53 11 = .ok (.ifCond .eq 7, 3) := by decide +kernel
theorem dJ9_floorMod_7cf53_14 : decode cJ9_floorMod_7cf53 14 = .ok (.iload_n 2, 1) := by decide +kernel
theorem dJ9_floorMod_7cf53_15 : decode cJ9_floorMod_7cf53 15 = .ok (.iload_n 1, 1) := by decide +kernel
theorem dJ9_floorMod_7cf53_16 : decode cJ9_floorMod_7cf53 16 = .ok (.iadd, 1) := by decide +kernel
theorem dJ9_floorMod_7cf53_17 : decode cJ9_floorMod_7cf53 17 = .ok (.ireturn, 1) := by decide +kernel
theorem dJ9_floorMod_7cf53_18 : decode cJ9_floorMod_7cf53 18 = .ok (.iload_n 2, 1) := by decide +kernel
theorem dJ9_floorMod_7cf53_19 : decode cJ9_floorMod_7cf53 19 = .ok (.ireturn, 1) := by decide +kernel
theorem dJ9_min_7cf53_0 : decode cJ9_min_7cf53 0 = .ok (.iload_n 0, 1) := by decide +kernel
theorem dJ9_min_7cf53_1 : decode cJ9_min_7cf53 1 = .ok (.iload_n 1, 1) := by decide +kernel
theorem dJ9_min_7cf53_2 : decode cJ9_min_7cf53 2 = .ok (.if_icmp .gt 7, 3) := by decide +kernel
theorem dJ9_min_7cf53_5 : decode cJ9_min_7cf53 5 = .ok (.iload_n 0, 1) := by decide +kernel
theorem dJ9_min_7cf53_6 : decode cJ9_min_7cf53 6 = .ok (.goto 4, 3) := by decide +kernel
theorem dJ9_min_7cf53_9 : decode cJ9_min_7cf53 9 = .ok (.iload_n 1, 1) := by decide +kernel
theorem dJ9_min_7cf53_10 : decode cJ9_min_7cf53 10 = .ok (.ireturn, 1) := by decide +kernel
abbrev vwCl : List vw_C := [(RX0, TX0, 9), (RX1, TX1, 4), (RX2, TX2, 11), (RX3, TX3, 5), (RX4, TX4, 3), (RX5, TX5, 6), (RX6, TX6, 14), (RX7, TX7, 2), (RX8, TX8, 8), (RX9, TX9, 9)]
