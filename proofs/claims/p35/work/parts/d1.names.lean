/-! The printed names of the law's helpers. -/
def wsL_cell : List Cond := .code yL_cell cL_cell 2 (some .int) :: ([.constant RL 7 (32452867), .constant RL 8 (86028121)])
def wsL_low : List Cond := .code yL_low cL_low 2 (some .int) :: ([.constant RL 9 (2147483647)])
def wsL_goods_r1 : List Cond := [Cond.methodLink RL 10 yL_cell, Cond.static yL_cell, Cond.initialized RL, Cond.code yL_cell cL_cell 2 (some .int), Cond.constant RL 7 (32452867), Cond.constant RL 8 (86028121), Cond.methodLink RL 16 yL_low, Cond.static yL_low, Cond.code yL_low cL_low 2 (some .int), Cond.constant RL 9 (2147483647), Cond.methodLink RL 20 yX9_addGood, Cond.instanceMethod yX9_addGood, Cond.selects RX9 yX9_addGood yX9_addGood, Cond.initialized RX9, Cond.code yX9_addGood cX9_addGood 3 (some .int), Cond.fieldLink RX9 12 "ShelfStages" "now" "LShelfStages$State;", Cond.fieldLink RX9 51 "ShelfStages$State" "goods" "LShelfStages$Goods;", Cond.fieldLink RX9 55 "ShelfStages$Goods" "size" "I", Cond.fieldLink RX9 25 "ShelfStages" "history" "LShelfStages$History;", Cond.methodLink RX9 47 yX9_within, Cond.static yX9_within, Cond.code yX9_within cX9_within 3 (some .boolean), Cond.methodLink RX9 61 yX4_push, Cond.instanceMethod yX4_push]
def wsL_goods_r2 : List Cond := [Cond.selects RX4 yX4_push yX4_push, Cond.initialized RX4, Cond.code yX4_push cX4_push 2 none, Cond.fieldLink RX4 18 "ShelfStages$History" "size" "I", Cond.fieldLink RX4 22 "ShelfStages$History" "oldest" "I", Cond.fieldLink RX4 11 "ShelfStages$History" "states" "[LShelfStages$State;", Cond.methodLink RX4 25 yX8_copyFrom, Cond.instanceMethod yX8_copyFrom, Cond.selects RX8 yX8_copyFrom yX8_copyFrom, Cond.initialized RX8, Cond.code yX8_copyFrom cX8_copyFrom 2 none, Cond.fieldLink RX8 12 "ShelfStages$State" "goods" "LShelfStages$Goods;", Cond.fieldLink RX8 21 "ShelfStages$State" "batches" "LShelfStages$Batches;", Cond.fieldLink RX8 28 "ShelfStages$State" "orders" "LShelfStages$Orders;", Cond.fieldLink RX8 35 "ShelfStages$State" "stages" "LShelfStages$Stages;", Cond.fieldLink RX8 42 "ShelfStages$State" "log" "LShelfStages$Log;", Cond.fieldLink RX8 46 "ShelfStages$State" "settings" "[I", Cond.fieldLink RX8 70 "ShelfStages$State" "rebate" "F", Cond.fieldLink RX8 74 "ShelfStages$State" "day" "I", Cond.methodLink RX8 50 yX3_copyFrom, Cond.instanceMethod yX3_copyFrom, Cond.selects RX3 yX3_copyFrom yX3_copyFrom, Cond.initialized RX3, Cond.code yX3_copyFrom cX3_copyFrom 2 none]
def wsL_goods_r3 : List Cond := [Cond.fieldLink RX3 24 "ShelfStages$Goods" "size" "I", Cond.fieldLink RX3 9 "ShelfStages$Goods" "price" "[I", Cond.fieldLink RX3 15 "ShelfStages$Goods" "life" "[I", Cond.fieldLink RX3 18 "ShelfStages$Goods" "listed" "[I", Cond.fieldLink RX3 21 "ShelfStages$Goods" "list" "[I", Cond.static yX9_copyRow, Cond.code yX9_copyRow cX9_copyRow 2 none, Cond.methodLink RX9 357 Lib.Math.min.name, Cond.static Lib.Math.min.name, Cond.initialized "java/lang/Math", Cond.code Lib.Math.min.name Lib.Math.min.code 2 (some .int), Cond.methodLink RX9 362 arraycopyName, Cond.native arraycopyName, Cond.static arraycopyName, Cond.initialized "java/lang/System", Cond.methodLink RX8 54 yX0_copyFrom, Cond.instanceMethod yX0_copyFrom, Cond.selects RX0 yX0_copyFrom yX0_copyFrom, Cond.initialized RX0, Cond.code yX0_copyFrom cX0_copyFrom 3 none, Cond.fieldLink RX0 38 "ShelfStages$Batches" "size" "I", Cond.fieldLink RX0 9 "ShelfStages$Batches" "good" "[I", Cond.fieldLink RX0 15 "ShelfStages$Batches" "came" "[I", Cond.fieldLink RX0 18 "ShelfStages$Batches" "left" "[I"]
def wsL_goods_r4 : List Cond := [Cond.fieldLink RX0 21 "ShelfStages$Batches" "shelf" "[I", Cond.fieldLink RX0 24 "ShelfStages$Batches" "sold" "[I", Cond.fieldLink RX0 27 "ShelfStages$Batches" "given" "[I", Cond.fieldLink RX0 30 "ShelfStages$Batches" "cents" "[I", Cond.fieldLink RX0 35 "ShelfStages$Batches" "wasted" "[[I", Cond.methodLink RX8 57 yX6_copyFrom, Cond.instanceMethod yX6_copyFrom, Cond.selects RX6 yX6_copyFrom yX6_copyFrom, Cond.initialized RX6, Cond.code yX6_copyFrom cX6_copyFrom 2 none, Cond.fieldLink RX6 48 "ShelfStages$Orders" "size" "I", Cond.fieldLink RX6 52 "ShelfStages$Orders" "takes" "I", Cond.fieldLink RX6 9 "ShelfStages$Orders" "good" "[I", Cond.fieldLink RX6 15 "ShelfStages$Orders" "wanted" "[I", Cond.fieldLink RX6 18 "ShelfStages$Orders" "got" "[I", Cond.fieldLink RX6 21 "ShelfStages$Orders" "replaced" "[I", Cond.fieldLink RX6 24 "ShelfStages$Orders" "least" "[I", Cond.fieldLink RX6 27 "ShelfStages$Orders" "accepts" "[I", Cond.fieldLink RX6 30 "ShelfStages$Orders" "parts" "[I", Cond.fieldLink RX6 33 "ShelfStages$Orders" "due" "[I", Cond.fieldLink RX6 36 "ShelfStages$Orders" "day" "[I", Cond.fieldLink RX6 39 "ShelfStages$Orders" "firstTake" "[I", Cond.fieldLink RX6 42 "ShelfStages$Orders" "takeBatch" "[I", Cond.fieldLink RX6 45 "ShelfStages$Orders" "takeUnits" "[I"]
def wsL_goods_r5 : List Cond := [Cond.methodLink RX8 60 yX7_copyFrom, Cond.instanceMethod yX7_copyFrom, Cond.selects RX7 yX7_copyFrom yX7_copyFrom, Cond.initialized RX7, Cond.code yX7_copyFrom cX7_copyFrom 3 none, Cond.fieldLink RX7 9 "ShelfStages$Stages" "share" "[I", Cond.fieldLink RX7 18 "ShelfStages$Stages" "markdown" "[F", Cond.methodLink RX8 63 yX5_copyFrom, Cond.instanceMethod yX5_copyFrom, Cond.selects RX5 yX5_copyFrom yX5_copyFrom, Cond.initialized RX5, Cond.code yX5_copyFrom cX5_copyFrom 2 none, Cond.fieldLink RX5 24 "ShelfStages$Log" "size" "I", Cond.fieldLink RX5 28 "ShelfStages$Log" "next" "I", Cond.fieldLink RX5 9 "ShelfStages$Log" "kind" "[I", Cond.fieldLink RX5 15 "ShelfStages$Log" "batch" "[I", Cond.fieldLink RX5 18 "ShelfStages$Log" "units" "[I", Cond.fieldLink RX5 21 "ShelfStages$Log" "day" "[I", Cond.methodLink RX9 65 yX3_append, Cond.instanceMethod yX3_append, Cond.selects RX3 yX3_append yX3_append, Cond.code yX3_append cX3_append 4 (some .int), Cond.methodLink RL 25 yX9_good, Cond.instanceMethod yX9_good]
def wsL_goods_r6 : List Cond := [Cond.selects RX9 yX9_good yX9_good, Cond.code yX9_good cX9_good 4 (some .int), Cond.fieldLink RX9 129 "ShelfStages$State" "batches" "LShelfStages$Batches;", Cond.fieldLink RX9 73 "ShelfStages$Goods" "price" "[I", Cond.fieldLink RX9 220 "ShelfStages$Goods" "life" "[I", Cond.fieldLink RX9 77 "ShelfStages$Goods" "listed" "[I", Cond.fieldLink RX9 192 "ShelfStages$Batches" "shelf" "[I", Cond.fieldLink RX9 226 "ShelfStages$Batches" "sold" "[I", Cond.fieldLink RX9 165 "ShelfStages$State" "orders" "LShelfStages$Orders;", Cond.methodLink RX9 69 yX9_hasGood, Cond.instanceMethod yX9_hasGood, Cond.selects RX9 yX9_hasGood yX9_hasGood, Cond.code yX9_hasGood cX9_hasGood 2 (some .boolean), Cond.methodLink RX9 198 yX0_sumOfGood, Cond.instanceMethod yX0_sumOfGood, Cond.selects RX0 yX0_sumOfGood yX0_sumOfGood, Cond.code yX0_sumOfGood cX0_sumOfGood 5 (some .int), Cond.methodLink RX9 223 yX0_countOfGood, Cond.instanceMethod yX0_countOfGood, Cond.selects RX0 yX0_countOfGood yX0_countOfGood, Cond.code yX0_countOfGood cX0_countOfGood 4 (some .int), Cond.methodLink RX9 229 yX6_gotForGood, Cond.instanceMethod yX6_gotForGood, Cond.selects RX6 yX6_gotForGood yX6_gotForGood]
def wsL_goods_r7 : List Cond := [Cond.code yX6_gotForGood cX6_gotForGood 4 (some .int), Cond.methodLink RL 28 yX9_substitute, Cond.instanceMethod yX9_substitute, Cond.selects RX9 yX9_substitute yX9_substitute, Cond.code yX9_substitute cX9_substitute 4 (some .int), Cond.methodLink RX9 88 yX9_placeError, Cond.instanceMethod yX9_placeError, Cond.selects RX9 yX9_placeError yX9_placeError, Cond.code yX9_placeError cX9_placeError 3 (some .int), Cond.methodLink RX9 232 yX3_listedAt, Cond.instanceMethod yX3_listedAt, Cond.selects RX3 yX3_listedAt yX3_listedAt, Cond.code yX3_listedAt cX3_listedAt 3 (some .int), Cond.methodLink RL 31 yX9_addSubstitute, Cond.instanceMethod yX9_addSubstitute, Cond.selects RX9 yX9_addSubstitute yX9_addSubstitute, Cond.code yX9_addSubstitute cX9_addSubstitute 5 (some .int), Cond.methodLink RX9 80 yX3_lists, Cond.instanceMethod yX3_lists, Cond.selects RX3 yX3_lists yX3_lists, Cond.code yX3_lists cX3_lists 4 (some .boolean), Cond.methodLink RX3 32 yX3_listedAt, Cond.methodLink RX9 84 yX3_insert, Cond.instanceMethod yX3_insert]
def wsL_goods_r8 : List Cond := [Cond.selects RX3 yX3_insert yX3_insert, Cond.code yX3_insert cX3_insert 6 none]
def wsL_goods : List Cond := .code yL_goods cL_goods 12 (some .boolean) :: ((wsL_goods_r1 ++ (wsL_goods_r2 ++ (wsL_goods_r3 ++ (wsL_goods_r4 ++ (wsL_goods_r5 ++ (wsL_goods_r6 ++ (wsL_goods_r7 ++ wsL_goods_r8))))))) ++ wsX90 ++ wsX80 ++ wsX30 ++ wsX40 ++ wsX00 ++ wsX60 ++ wsX70 ++ wsX50)
def wsL_stage_r1 : List Cond := [Cond.methodLink RL 35 yX9_batch, Cond.instanceMethod yX9_batch, Cond.selects RX9 yX9_batch yX9_batch, Cond.initialized RX9, Cond.code yX9_batch cX9_batch 4 (some .int), Cond.fieldLink RX9 12 "ShelfStages" "now" "LShelfStages$State;", Cond.fieldLink RX9 129 "ShelfStages$State" "batches" "LShelfStages$Batches;", Cond.fieldLink RX9 235 "ShelfStages$Batches" "good" "[I", Cond.fieldLink RX9 238 "ShelfStages$Batches" "came" "[I", Cond.fieldLink RX9 241 "ShelfStages$Batches" "left" "[I", Cond.fieldLink RX9 192 "ShelfStages$Batches" "shelf" "[I", Cond.fieldLink RX9 226 "ShelfStages$Batches" "sold" "[I", Cond.fieldLink RX9 244 "ShelfStages$Batches" "given" "[I", Cond.fieldLink RX9 250 "ShelfStages$Batches" "wasted" "[[I", Cond.fieldLink RX9 257 "ShelfStages$Batches" "cents" "[I", Cond.methodLink RX9 189 yX9_hasBatch, Cond.instanceMethod yX9_hasBatch, Cond.selects RX9 yX9_hasBatch yX9_hasBatch, Cond.code yX9_hasBatch cX9_hasBatch 2 (some .boolean), Cond.fieldLink RX9 133 "ShelfStages$Batches" "size" "I", Cond.methodLink RX9 47 yX9_within, Cond.static yX9_within, Cond.code yX9_within cX9_within 3 (some .boolean), Cond.methodLink RX9 247 yX0_wastedOf]
def wsL_stage_r2 : List Cond := [Cond.instanceMethod yX0_wastedOf, Cond.selects RX0 yX0_wastedOf yX0_wastedOf, Cond.initialized RX0, Cond.code yX0_wastedOf cX0_wastedOf 2 (some .int), Cond.fieldLink RX0 35 "ShelfStages$Batches" "wasted" "[[I", Cond.methodLink RX9 254 yX8_stageOf, Cond.instanceMethod yX8_stageOf, Cond.selects RX8 yX8_stageOf yX8_stageOf, Cond.initialized RX8, Cond.code yX8_stageOf cX8_stageOf 2 (some .int), Cond.fieldLink RX8 35 "ShelfStages$State" "stages" "LShelfStages$Stages;", Cond.fieldLink RX8 21 "ShelfStages$State" "batches" "LShelfStages$Batches;", Cond.fieldLink RX8 78 "ShelfStages$Batches" "left" "[I", Cond.fieldLink RX8 12 "ShelfStages$State" "goods" "LShelfStages$Goods;", Cond.fieldLink RX8 81 "ShelfStages$Goods" "life" "[I", Cond.fieldLink RX8 84 "ShelfStages$Batches" "good" "[I", Cond.methodLink RX8 87 yX7_reached, Cond.instanceMethod yX7_reached, Cond.selects RX7 yX7_reached yX7_reached, Cond.initialized RX7, Cond.code yX7_reached cX7_reached 4 (some .int), Cond.fieldLink RX7 9 "ShelfStages$Stages" "share" "[I", Cond.methodLink RL 38 yX9_stage, Cond.instanceMethod yX9_stage]
def wsL_stage_r3 : List Cond := [Cond.selects RX9 yX9_stage yX9_stage, Cond.code yX9_stage cX9_stage 3 (some .int), Cond.fieldLink RX9 94 "ShelfStages$State" "stages" "LShelfStages$Stages;", Cond.fieldLink RX9 104 "ShelfStages$Stages" "share" "[I", Cond.methodLink RX9 267 yX9_isStage, Cond.static yX9_isStage, Cond.code yX9_isStage cX9_isStage 1 (some .boolean), Cond.methodLink RX9 270 yX8_batchesInStage, Cond.instanceMethod yX8_batchesInStage, Cond.selects RX8 yX8_batchesInStage yX8_batchesInStage, Cond.code yX8_batchesInStage cX8_batchesInStage 4 (some .int), Cond.fieldLink RX8 106 "ShelfStages$Batches" "size" "I", Cond.methodLink RX8 109 yX8_isOnShelfIn, Cond.instanceMethod yX8_isOnShelfIn, Cond.selects RX8 yX8_isOnShelfIn yX8_isOnShelfIn, Cond.code yX8_isOnShelfIn cX8_isOnShelfIn 3 (some .boolean), Cond.fieldLink RX8 103 "ShelfStages$Batches" "shelf" "[I", Cond.methodLink RX8 98 yX8_stageOf, Cond.methodLink RX9 273 yX8_unitsInStage, Cond.instanceMethod yX8_unitsInStage, Cond.selects RX8 yX8_unitsInStage yX8_unitsInStage, Cond.code yX8_unitsInStage cX8_unitsInStage 4 (some .int), Cond.methodLink RL 25 yX9_good, Cond.instanceMethod yX9_good]
def wsL_stage_r4 : List Cond := [Cond.selects RX9 yX9_good yX9_good, Cond.code yX9_good cX9_good 4 (some .int), Cond.fieldLink RX9 51 "ShelfStages$State" "goods" "LShelfStages$Goods;", Cond.fieldLink RX9 73 "ShelfStages$Goods" "price" "[I", Cond.fieldLink RX9 220 "ShelfStages$Goods" "life" "[I", Cond.fieldLink RX9 77 "ShelfStages$Goods" "listed" "[I", Cond.fieldLink RX9 165 "ShelfStages$State" "orders" "LShelfStages$Orders;", Cond.methodLink RX9 69 yX9_hasGood, Cond.instanceMethod yX9_hasGood, Cond.selects RX9 yX9_hasGood yX9_hasGood, Cond.code yX9_hasGood cX9_hasGood 2 (some .boolean), Cond.fieldLink RX9 55 "ShelfStages$Goods" "size" "I", Cond.methodLink RX9 198 yX0_sumOfGood, Cond.instanceMethod yX0_sumOfGood, Cond.selects RX0 yX0_sumOfGood yX0_sumOfGood, Cond.code yX0_sumOfGood cX0_sumOfGood 5 (some .int), Cond.fieldLink RX0 38 "ShelfStages$Batches" "size" "I", Cond.fieldLink RX0 9 "ShelfStages$Batches" "good" "[I", Cond.methodLink RX9 223 yX0_countOfGood, Cond.instanceMethod yX0_countOfGood, Cond.selects RX0 yX0_countOfGood yX0_countOfGood, Cond.code yX0_countOfGood cX0_countOfGood 4 (some .int), Cond.methodLink RX9 229 yX6_gotForGood, Cond.instanceMethod yX6_gotForGood]
def wsL_stage_r5 : List Cond := [Cond.selects RX6 yX6_gotForGood yX6_gotForGood, Cond.initialized RX6, Cond.code yX6_gotForGood cX6_gotForGood 4 (some .int), Cond.fieldLink RX6 48 "ShelfStages$Orders" "size" "I", Cond.fieldLink RX6 9 "ShelfStages$Orders" "good" "[I", Cond.fieldLink RX6 18 "ShelfStages$Orders" "got" "[I"]
def wsL_stage : List Cond := .code yL_stage cL_stage 4 (some .int) :: ((wsL_stage_r1 ++ (wsL_stage_r2 ++ (wsL_stage_r3 ++ (wsL_stage_r4 ++ wsL_stage_r5)))) ++ wsX90 ++ wsX80 ++ wsX00 ++ wsX30 ++ wsX70 ++ wsX60)
def wsL_byGoods_r1 : List Cond := [Cond.methodLink RL 25 yX9_good, Cond.instanceMethod yX9_good, Cond.selects RX9 yX9_good yX9_good, Cond.initialized RX9, Cond.code yX9_good cX9_good 4 (some .int), Cond.fieldLink RX9 12 "ShelfStages" "now" "LShelfStages$State;", Cond.fieldLink RX9 129 "ShelfStages$State" "batches" "LShelfStages$Batches;", Cond.fieldLink RX9 51 "ShelfStages$State" "goods" "LShelfStages$Goods;", Cond.fieldLink RX9 73 "ShelfStages$Goods" "price" "[I", Cond.fieldLink RX9 220 "ShelfStages$Goods" "life" "[I", Cond.fieldLink RX9 77 "ShelfStages$Goods" "listed" "[I", Cond.fieldLink RX9 192 "ShelfStages$Batches" "shelf" "[I", Cond.fieldLink RX9 226 "ShelfStages$Batches" "sold" "[I", Cond.fieldLink RX9 165 "ShelfStages$State" "orders" "LShelfStages$Orders;", Cond.methodLink RX9 69 yX9_hasGood, Cond.instanceMethod yX9_hasGood, Cond.selects RX9 yX9_hasGood yX9_hasGood, Cond.code yX9_hasGood cX9_hasGood 2 (some .boolean), Cond.fieldLink RX9 55 "ShelfStages$Goods" "size" "I", Cond.methodLink RX9 47 yX9_within, Cond.static yX9_within, Cond.code yX9_within cX9_within 3 (some .boolean), Cond.methodLink RX9 198 yX0_sumOfGood, Cond.instanceMethod yX0_sumOfGood]
def wsL_byGoods_r2 : List Cond := [Cond.selects RX0 yX0_sumOfGood yX0_sumOfGood, Cond.initialized RX0, Cond.code yX0_sumOfGood cX0_sumOfGood 5 (some .int), Cond.fieldLink RX0 38 "ShelfStages$Batches" "size" "I", Cond.fieldLink RX0 9 "ShelfStages$Batches" "good" "[I", Cond.methodLink RX9 223 yX0_countOfGood, Cond.instanceMethod yX0_countOfGood, Cond.selects RX0 yX0_countOfGood yX0_countOfGood, Cond.code yX0_countOfGood cX0_countOfGood 4 (some .int), Cond.methodLink RX9 229 yX6_gotForGood, Cond.instanceMethod yX6_gotForGood, Cond.selects RX6 yX6_gotForGood yX6_gotForGood, Cond.initialized RX6, Cond.code yX6_gotForGood cX6_gotForGood 4 (some .int), Cond.fieldLink RX6 48 "ShelfStages$Orders" "size" "I", Cond.fieldLink RX6 9 "ShelfStages$Orders" "good" "[I", Cond.fieldLink RX6 18 "ShelfStages$Orders" "got" "[I"]
def wsL_byGoods : List Cond := .code yL_byGoods cL_byGoods 8 (some .boolean) :: ((wsL_byGoods_r1 ++ wsL_byGoods_r2) ++ wsX90 ++ wsX80 ++ wsX30 ++ wsX00 ++ wsX60)
def wsL_addUp_r1 : List Cond := [Cond.constantFloat RL 52 (1120403456), Cond.methodLink RL 41 yX9_count, Cond.instanceMethod yX9_count, Cond.selects RX9 yX9_count yX9_count, Cond.initialized RX9, Cond.code yX9_count cX9_count 4 (some .int), Cond.fieldLink RX9 12 "ShelfStages" "now" "LShelfStages$State;", Cond.fieldLink RX9 129 "ShelfStages$State" "batches" "LShelfStages$Batches;", Cond.fieldLink RX9 165 "ShelfStages$State" "orders" "LShelfStages$Orders;", Cond.fieldLink RX9 172 "ShelfStages$State" "day" "I", Cond.fieldLink RX9 51 "ShelfStages$State" "goods" "LShelfStages$Goods;", Cond.fieldLink RX9 55 "ShelfStages$Goods" "size" "I", Cond.fieldLink RX9 133 "ShelfStages$Batches" "size" "I", Cond.fieldLink RX9 169 "ShelfStages$Orders" "size" "I", Cond.fieldLink RX9 192 "ShelfStages$Batches" "shelf" "[I", Cond.fieldLink RX9 226 "ShelfStages$Batches" "sold" "[I", Cond.fieldLink RX9 244 "ShelfStages$Batches" "given" "[I", Cond.fieldLink RX9 250 "ShelfStages$Batches" "wasted" "[[I", Cond.fieldLink RX9 280 "ShelfStages$Orders" "wanted" "[I", Cond.fieldLink RX9 283 "ShelfStages$Orders" "got" "[I", Cond.fieldLink RX9 297 "ShelfStages$Orders" "due" "[I", Cond.fieldLink RX9 118 "ShelfStages$State" "settings" "[I", Cond.fieldLink RX9 25 "ShelfStages" "history" "LShelfStages$History;", Cond.fieldLink RX9 209 "ShelfStages$History" "size" "I"]
def wsL_addUp_r2 : List Cond := [Cond.fieldLink RX9 140 "ShelfStages" "textLength" "I", Cond.methodLink RX9 340 yX0_sum, Cond.instanceMethod yX0_sum, Cond.selects RX0 yX0_sum yX0_sum, Cond.initialized RX0, Cond.code yX0_sum cX0_sum 4 (some .int), Cond.fieldLink RX0 38 "ShelfStages$Batches" "size" "I", Cond.methodLink RX9 344 yX0_wastedOfAll, Cond.instanceMethod yX0_wastedOfAll, Cond.selects RX0 yX0_wastedOfAll yX0_wastedOfAll, Cond.code yX0_wastedOfAll cX0_wastedOfAll 1 (some .int), Cond.fieldLink RX0 35 "ShelfStages$Batches" "wasted" "[[I", Cond.methodLink RX0 46 yX0_sum, Cond.methodLink RX9 347 yX6_sum, Cond.instanceMethod yX6_sum, Cond.selects RX6 yX6_sum yX6_sum, Cond.initialized RX6, Cond.code yX6_sum cX6_sum 4 (some .int), Cond.fieldLink RX6 48 "ShelfStages$Orders" "size" "I", Cond.methodLink RX9 348 yX6_refused, Cond.instanceMethod yX6_refused, Cond.selects RX6 yX6_refused yX6_refused, Cond.code yX6_refused cX6_refused 3 (some .int), Cond.fieldLink RX6 18 "ShelfStages$Orders" "got" "[I"]
def wsL_addUp_r3 : List Cond := [Cond.methodLink RL 35 yX9_batch, Cond.instanceMethod yX9_batch, Cond.selects RX9 yX9_batch yX9_batch, Cond.code yX9_batch cX9_batch 4 (some .int), Cond.fieldLink RX9 235 "ShelfStages$Batches" "good" "[I", Cond.fieldLink RX9 238 "ShelfStages$Batches" "came" "[I", Cond.fieldLink RX9 241 "ShelfStages$Batches" "left" "[I", Cond.fieldLink RX9 257 "ShelfStages$Batches" "cents" "[I", Cond.methodLink RX9 189 yX9_hasBatch, Cond.instanceMethod yX9_hasBatch, Cond.selects RX9 yX9_hasBatch yX9_hasBatch, Cond.code yX9_hasBatch cX9_hasBatch 2 (some .boolean), Cond.methodLink RX9 47 yX9_within, Cond.static yX9_within, Cond.code yX9_within cX9_within 3 (some .boolean), Cond.methodLink RX9 247 yX0_wastedOf, Cond.instanceMethod yX0_wastedOf, Cond.selects RX0 yX0_wastedOf yX0_wastedOf, Cond.code yX0_wastedOf cX0_wastedOf 2 (some .int), Cond.methodLink RX9 254 yX8_stageOf, Cond.instanceMethod yX8_stageOf, Cond.selects RX8 yX8_stageOf yX8_stageOf, Cond.initialized RX8, Cond.code yX8_stageOf cX8_stageOf 2 (some .int)]
def wsL_addUp_r4 : List Cond := [Cond.fieldLink RX8 35 "ShelfStages$State" "stages" "LShelfStages$Stages;", Cond.fieldLink RX8 21 "ShelfStages$State" "batches" "LShelfStages$Batches;", Cond.fieldLink RX8 78 "ShelfStages$Batches" "left" "[I", Cond.fieldLink RX8 12 "ShelfStages$State" "goods" "LShelfStages$Goods;", Cond.fieldLink RX8 81 "ShelfStages$Goods" "life" "[I", Cond.fieldLink RX8 84 "ShelfStages$Batches" "good" "[I", Cond.methodLink RX8 87 yX7_reached, Cond.instanceMethod yX7_reached, Cond.selects RX7 yX7_reached yX7_reached, Cond.initialized RX7, Cond.code yX7_reached cX7_reached 4 (some .int), Cond.fieldLink RX7 9 "ShelfStages$Stages" "share" "[I", Cond.methodLink RL 25 yX9_good, Cond.instanceMethod yX9_good, Cond.selects RX9 yX9_good yX9_good, Cond.code yX9_good cX9_good 4 (some .int), Cond.fieldLink RX9 73 "ShelfStages$Goods" "price" "[I", Cond.fieldLink RX9 220 "ShelfStages$Goods" "life" "[I", Cond.fieldLink RX9 77 "ShelfStages$Goods" "listed" "[I", Cond.methodLink RX9 69 yX9_hasGood, Cond.instanceMethod yX9_hasGood, Cond.selects RX9 yX9_hasGood yX9_hasGood, Cond.code yX9_hasGood cX9_hasGood 2 (some .boolean), Cond.methodLink RX9 198 yX0_sumOfGood]
def wsL_addUp_r5 : List Cond := [Cond.instanceMethod yX0_sumOfGood, Cond.selects RX0 yX0_sumOfGood yX0_sumOfGood, Cond.code yX0_sumOfGood cX0_sumOfGood 5 (some .int), Cond.fieldLink RX0 9 "ShelfStages$Batches" "good" "[I", Cond.methodLink RX9 223 yX0_countOfGood, Cond.instanceMethod yX0_countOfGood, Cond.selects RX0 yX0_countOfGood yX0_countOfGood, Cond.code yX0_countOfGood cX0_countOfGood 4 (some .int), Cond.methodLink RX9 229 yX6_gotForGood, Cond.instanceMethod yX6_gotForGood, Cond.selects RX6 yX6_gotForGood yX6_gotForGood, Cond.code yX6_gotForGood cX6_gotForGood 4 (some .int), Cond.fieldLink RX6 9 "ShelfStages$Orders" "good" "[I", Cond.methodLink RL 45 yL_stage, Cond.static yL_stage, Cond.initialized RL, Cond.code yL_stage cL_stage 4 (some .int), Cond.methodLink RL 38 yX9_stage, Cond.instanceMethod yX9_stage, Cond.selects RX9 yX9_stage yX9_stage, Cond.code yX9_stage cX9_stage 3 (some .int), Cond.fieldLink RX9 94 "ShelfStages$State" "stages" "LShelfStages$Stages;", Cond.fieldLink RX9 104 "ShelfStages$Stages" "share" "[I", Cond.methodLink RX9 267 yX9_isStage]
def wsL_addUp_r6 : List Cond := [Cond.static yX9_isStage, Cond.code yX9_isStage cX9_isStage 1 (some .boolean), Cond.methodLink RX9 270 yX8_batchesInStage, Cond.instanceMethod yX8_batchesInStage, Cond.selects RX8 yX8_batchesInStage yX8_batchesInStage, Cond.code yX8_batchesInStage cX8_batchesInStage 4 (some .int), Cond.fieldLink RX8 106 "ShelfStages$Batches" "size" "I", Cond.methodLink RX8 109 yX8_isOnShelfIn, Cond.instanceMethod yX8_isOnShelfIn, Cond.selects RX8 yX8_isOnShelfIn yX8_isOnShelfIn, Cond.code yX8_isOnShelfIn cX8_isOnShelfIn 3 (some .boolean), Cond.fieldLink RX8 103 "ShelfStages$Batches" "shelf" "[I", Cond.methodLink RX8 98 yX8_stageOf, Cond.methodLink RX9 273 yX8_unitsInStage, Cond.instanceMethod yX8_unitsInStage, Cond.selects RX8 yX8_unitsInStage yX8_unitsInStage, Cond.code yX8_unitsInStage cX8_unitsInStage 4 (some .int), Cond.methodLink RL 48 yX9_markdown, Cond.instanceMethod yX9_markdown, Cond.selects RX9 yX9_markdown yX9_markdown, Cond.code yX9_markdown cX9_markdown 2 (some .float), Cond.fieldLink RX9 111 "ShelfStages$Stages" "markdown" "[F", Cond.methodLink RX9 260 yX9_notANumber, Cond.static yX9_notANumber]
def wsL_addUp_r7 : List Cond := [Cond.code yX9_notANumber cX9_notANumber 0 (some .float), Cond.constantFloat RX9 356 (2143289344), Cond.methodLink RL 53 yX9_unitPrice, Cond.instanceMethod yX9_unitPrice, Cond.selects RX9 yX9_unitPrice yX9_unitPrice, Cond.code yX9_unitPrice cX9_unitPrice 2 (some .float), Cond.methodLink RX9 264 yX8_priceOfUnit, Cond.instanceMethod yX8_priceOfUnit, Cond.selects RX8 yX8_priceOfUnit yX8_priceOfUnit, Cond.code yX8_priceOfUnit cX8_priceOfUnit 3 (some .float), Cond.fieldLink RX8 91 "ShelfStages$Goods" "price" "[I", Cond.fieldLink RX8 94 "ShelfStages$Stages" "markdown" "[F", Cond.constantFloat RX8 102 (1120403456), Cond.methodLink RL 56 yX9_orderTold, Cond.instanceMethod yX9_orderTold, Cond.selects RX9 yX9_orderTold yX9_orderTold, Cond.code yX9_orderTold cX9_orderTold 4 (some .int), Cond.fieldLink RX9 279 "ShelfStages$Orders" "good" "[I", Cond.fieldLink RX9 285 "ShelfStages$Orders" "replaced" "[I", Cond.fieldLink RX9 288 "ShelfStages$Orders" "least" "[I", Cond.fieldLink RX9 291 "ShelfStages$Orders" "accepts" "[I", Cond.fieldLink RX9 294 "ShelfStages$Orders" "parts" "[I", Cond.fieldLink RX9 300 "ShelfStages$Orders" "day" "[I", Cond.methodLink RX9 276 yX9_hasOrder]
def wsL_addUp_r8 : List Cond := [Cond.instanceMethod yX9_hasOrder, Cond.selects RX9 yX9_hasOrder yX9_hasOrder, Cond.code yX9_hasOrder cX9_hasOrder 2 (some .boolean), Cond.methodLink RL 59 yX9_taken, Cond.instanceMethod yX9_taken, Cond.selects RX9 yX9_taken yX9_taken, Cond.code yX9_taken cX9_taken 5 (some .int), Cond.fieldLink RX9 302 "ShelfStages$Orders" "firstTake" "[I", Cond.fieldLink RX9 305 "ShelfStages$Orders" "takeBatch" "[I", Cond.fieldLink RX9 308 "ShelfStages$Orders" "takeUnits" "[I", Cond.methodLink RL 62 yL_byGoods, Cond.static yL_byGoods, Cond.code yL_byGoods cL_byGoods 8 (some .boolean)]
def wsL_addUp : List Cond := .code yL_addUp cL_addUp 12 (some .boolean) :: ((wsL_addUp_r1 ++ (wsL_addUp_r2 ++ (wsL_addUp_r3 ++ (wsL_addUp_r4 ++ (wsL_addUp_r5 ++ (wsL_addUp_r6 ++ (wsL_addUp_r7 ++ wsL_addUp_r8))))))) ++ wsX90 ++ wsX80 ++ wsX30 ++ wsX00 ++ wsX60 ++ wsX40 ++ wsX70)
def wsL_order_r1 : List Cond := [Cond.methodLink RL 16 yL_low, Cond.static yL_low, Cond.initialized RL, Cond.code yL_low cL_low 2 (some .int), Cond.constant RL 9 (2147483647), Cond.methodLink RL 66 yX9_wouldGet, Cond.instanceMethod yX9_wouldGet, Cond.selects RX9 yX9_wouldGet yX9_wouldGet, Cond.initialized RX9, Cond.code yX9_wouldGet cX9_wouldGet 7 (some .int), Cond.fieldLink RX9 32 "ShelfStages" "filling" "LShelfStages$Filling;", Cond.fieldLink RX9 12 "ShelfStages" "now" "LShelfStages$State;", Cond.fieldLink RX9 186 "ShelfStages$Filling" "got" "I", Cond.fieldLink RX9 311 "ShelfStages$Filling" "replaced" "I", Cond.fieldLink RX9 313 "ShelfStages$Filling" "size" "I", Cond.fieldLink RX9 122 "ShelfStages$State" "rebate" "F", Cond.methodLink RX9 162 yX9_wishError, Cond.instanceMethod yX9_wishError, Cond.selects RX9 yX9_wishError yX9_wishError, Cond.code yX9_wishError cX9_wishError 5 (some .int), Cond.methodLink RX9 69 yX9_hasGood, Cond.instanceMethod yX9_hasGood, Cond.selects RX9 yX9_hasGood yX9_hasGood, Cond.code yX9_hasGood cX9_hasGood 2 (some .boolean)]
def wsL_order_r2 : List Cond := [Cond.fieldLink RX9 51 "ShelfStages$State" "goods" "LShelfStages$Goods;", Cond.fieldLink RX9 55 "ShelfStages$Goods" "size" "I", Cond.methodLink RX9 47 yX9_within, Cond.static yX9_within, Cond.code yX9_within cX9_within 3 (some .boolean), Cond.methodLink RX9 178 yX2_fill, Cond.instanceMethod yX2_fill, Cond.selects RX2 yX2_fill yX2_fill, Cond.initialized RX2, Cond.code yX2_fill cX2_fill 9 none, Cond.fieldLink RX2 28 "ShelfStages$Filling" "size" "I", Cond.fieldLink RX2 32 "ShelfStages$Filling" "got" "I", Cond.fieldLink RX2 35 "ShelfStages$Filling" "orderedGood" "I", Cond.fieldLink RX2 38 "ShelfStages$Filling" "wanted" "I", Cond.fieldLink RX2 41 "ShelfStages$Filling" "least" "I", Cond.fieldLink RX2 44 "ShelfStages$State" "batches" "LShelfStages$Batches;", Cond.fieldLink RX2 50 "ShelfStages$Batches" "shelf" "[I", Cond.fieldLink RX2 21 "ShelfStages$Filling" "rest" "[I", Cond.fieldLink RX2 59 "ShelfStages$Batches" "size" "I", Cond.fieldLink RX2 24 "ShelfStages$Filling" "price" "[F", Cond.fieldLink RX2 68 "ShelfStages$State" "goods" "LShelfStages$Goods;", Cond.fieldLink RX2 72 "ShelfStages$Goods" "listed" "[I", Cond.fieldLink RX2 81 "ShelfStages$Filling" "replaced" "I", Cond.static yX9_copyRow]
def wsL_order_r3 : List Cond := [Cond.code yX9_copyRow cX9_copyRow 2 none, Cond.methodLink RX9 357 Lib.Math.min.name, Cond.static Lib.Math.min.name, Cond.initialized "java/lang/Math", Cond.code Lib.Math.min.name Lib.Math.min.code 2 (some .int), Cond.methodLink RX9 362 arraycopyName, Cond.native arraycopyName, Cond.static arraycopyName, Cond.initialized "java/lang/System", Cond.methodLink RX2 60 yX8_priceOfUnit, Cond.instanceMethod yX8_priceOfUnit, Cond.selects RX8 yX8_priceOfUnit yX8_priceOfUnit, Cond.initialized RX8, Cond.code yX8_priceOfUnit cX8_priceOfUnit 3 (some .float), Cond.fieldLink RX8 12 "ShelfStages$State" "goods" "LShelfStages$Goods;", Cond.fieldLink RX8 91 "ShelfStages$Goods" "price" "[I", Cond.fieldLink RX8 21 "ShelfStages$State" "batches" "LShelfStages$Batches;", Cond.fieldLink RX8 84 "ShelfStages$Batches" "good" "[I", Cond.fieldLink RX8 35 "ShelfStages$State" "stages" "LShelfStages$Stages;", Cond.fieldLink RX8 94 "ShelfStages$Stages" "markdown" "[F", Cond.constantFloat RX8 102 (1120403456), Cond.methodLink RX8 98 yX8_stageOf, Cond.instanceMethod yX8_stageOf, Cond.selects RX8 yX8_stageOf yX8_stageOf]
def wsL_order_r4 : List Cond := [Cond.code yX8_stageOf cX8_stageOf 2 (some .int), Cond.fieldLink RX8 78 "ShelfStages$Batches" "left" "[I", Cond.fieldLink RX8 81 "ShelfStages$Goods" "life" "[I", Cond.methodLink RX8 87 yX7_reached, Cond.instanceMethod yX7_reached, Cond.selects RX7 yX7_reached yX7_reached, Cond.initialized RX7, Cond.code yX7_reached cX7_reached 4 (some .int), Cond.fieldLink RX7 9 "ShelfStages$Stages" "share" "[I", Cond.methodLink RX2 64 yX2_takeFrom, Cond.instanceMethod yX2_takeFrom, Cond.selects RX2 yX2_takeFrom yX2_takeFrom, Cond.code yX2_takeFrom cX2_takeFrom 5 none, Cond.methodLink RX2 89 Lib.Math.min.name, Cond.methodLink RX2 85 yX2_nextBatch, Cond.instanceMethod yX2_nextBatch, Cond.selects RX2 yX2_nextBatch yX2_nextBatch, Cond.code yX2_nextBatch cX2_nextBatch 5 (some .int), Cond.methodLink RX2 107 yX2_isOpen, Cond.instanceMethod yX2_isOpen, Cond.selects RX2 yX2_isOpen yX2_isOpen, Cond.code yX2_isOpen cX2_isOpen 5 (some .boolean), Cond.fieldLink RX2 104 "ShelfStages$Batches" "good" "[I", Cond.fieldLink RX2 114 "ShelfStages$Batches" "left" "[I"]
def wsL_order_r5 : List Cond := [Cond.methodLink RX2 111 yX2_isBefore, Cond.instanceMethod yX2_isBefore, Cond.selects RX2 yX2_isBefore yX2_isBefore, Cond.code yX2_isBefore cX2_isBefore 5 (some .boolean), Cond.fieldLink RX2 117 "ShelfStages$State" "settings" "[I", Cond.methodLink RX2 94 yX2_takePart, Cond.instanceMethod yX2_takePart, Cond.selects RX2 yX2_takePart yX2_takePart, Cond.code yX2_takePart cX2_takePart 4 none, Cond.fieldLink RX2 9 "ShelfStages$Filling" "batch" "[I", Cond.fieldLink RX2 15 "ShelfStages$Filling" "units" "[I", Cond.fieldLink RX2 18 "ShelfStages$Filling" "cents" "[I", Cond.methodLink RX2 98 yX2_chargedPrice, Cond.instanceMethod yX2_chargedPrice, Cond.selects RX2 yX2_chargedPrice yX2_chargedPrice, Cond.code yX2_chargedPrice cX2_chargedPrice 5 (some .float), Cond.fieldLink RX2 102 "ShelfStages$Goods" "price" "[I", Cond.methodLink RX2 77 yX3_listedAt, Cond.instanceMethod yX3_listedAt, Cond.selects RX3 yX3_listedAt yX3_listedAt, Cond.initialized RX3, Cond.code yX3_listedAt cX3_listedAt 3 (some .int), Cond.fieldLink RX3 21 "ShelfStages$Goods" "list" "[I", Cond.methodLink RX9 314 yX2_due]
def wsL_order_r6 : List Cond := [Cond.instanceMethod yX2_due, Cond.selects RX2 yX2_due yX2_due, Cond.code yX2_due cX2_due 4 (some .int), Cond.constantFloat RX2 84 (1120403456), Cond.methodLink RL 41 yX9_count, Cond.instanceMethod yX9_count, Cond.selects RX9 yX9_count yX9_count, Cond.code yX9_count cX9_count 4 (some .int), Cond.fieldLink RX9 129 "ShelfStages$State" "batches" "LShelfStages$Batches;", Cond.fieldLink RX9 165 "ShelfStages$State" "orders" "LShelfStages$Orders;", Cond.fieldLink RX9 172 "ShelfStages$State" "day" "I", Cond.fieldLink RX9 133 "ShelfStages$Batches" "size" "I", Cond.fieldLink RX9 169 "ShelfStages$Orders" "size" "I", Cond.fieldLink RX9 192 "ShelfStages$Batches" "shelf" "[I", Cond.fieldLink RX9 226 "ShelfStages$Batches" "sold" "[I", Cond.fieldLink RX9 244 "ShelfStages$Batches" "given" "[I", Cond.fieldLink RX9 250 "ShelfStages$Batches" "wasted" "[[I", Cond.fieldLink RX9 280 "ShelfStages$Orders" "wanted" "[I", Cond.fieldLink RX9 283 "ShelfStages$Orders" "got" "[I", Cond.fieldLink RX9 297 "ShelfStages$Orders" "due" "[I", Cond.fieldLink RX9 118 "ShelfStages$State" "settings" "[I", Cond.fieldLink RX9 25 "ShelfStages" "history" "LShelfStages$History;", Cond.fieldLink RX9 209 "ShelfStages$History" "size" "I", Cond.fieldLink RX9 140 "ShelfStages" "textLength" "I"]
def wsL_order_r7 : List Cond := [Cond.methodLink RX9 340 yX0_sum, Cond.instanceMethod yX0_sum, Cond.selects RX0 yX0_sum yX0_sum, Cond.initialized RX0, Cond.code yX0_sum cX0_sum 4 (some .int), Cond.fieldLink RX0 38 "ShelfStages$Batches" "size" "I", Cond.methodLink RX9 344 yX0_wastedOfAll, Cond.instanceMethod yX0_wastedOfAll, Cond.selects RX0 yX0_wastedOfAll yX0_wastedOfAll, Cond.code yX0_wastedOfAll cX0_wastedOfAll 1 (some .int), Cond.fieldLink RX0 35 "ShelfStages$Batches" "wasted" "[[I", Cond.methodLink RX0 46 yX0_sum, Cond.methodLink RX9 347 yX6_sum, Cond.instanceMethod yX6_sum, Cond.selects RX6 yX6_sum yX6_sum, Cond.initialized RX6, Cond.code yX6_sum cX6_sum 4 (some .int), Cond.fieldLink RX6 48 "ShelfStages$Orders" "size" "I", Cond.methodLink RX9 348 yX6_refused, Cond.instanceMethod yX6_refused, Cond.selects RX6 yX6_refused yX6_refused, Cond.code yX6_refused cX6_refused 3 (some .int), Cond.fieldLink RX6 18 "ShelfStages$Orders" "got" "[I", Cond.methodLink RL 70 yX9_order]
def wsL_order_r8 : List Cond := [Cond.instanceMethod yX9_order, Cond.selects RX9 yX9_order yX9_order, Cond.code yX9_order cX9_order 6 (some .int), Cond.methodLink RX9 61 yX4_push, Cond.instanceMethod yX4_push, Cond.selects RX4 yX4_push yX4_push, Cond.initialized RX4, Cond.code yX4_push cX4_push 2 none, Cond.fieldLink RX4 18 "ShelfStages$History" "size" "I", Cond.fieldLink RX4 22 "ShelfStages$History" "oldest" "I", Cond.fieldLink RX4 11 "ShelfStages$History" "states" "[LShelfStages$State;", Cond.methodLink RX4 25 yX8_copyFrom, Cond.instanceMethod yX8_copyFrom, Cond.selects RX8 yX8_copyFrom yX8_copyFrom, Cond.code yX8_copyFrom cX8_copyFrom 2 none, Cond.fieldLink RX8 28 "ShelfStages$State" "orders" "LShelfStages$Orders;", Cond.fieldLink RX8 42 "ShelfStages$State" "log" "LShelfStages$Log;", Cond.fieldLink RX8 46 "ShelfStages$State" "settings" "[I", Cond.fieldLink RX8 70 "ShelfStages$State" "rebate" "F", Cond.fieldLink RX8 74 "ShelfStages$State" "day" "I", Cond.methodLink RX8 50 yX3_copyFrom, Cond.instanceMethod yX3_copyFrom, Cond.selects RX3 yX3_copyFrom yX3_copyFrom, Cond.code yX3_copyFrom cX3_copyFrom 2 none]
def wsL_order_r9 : List Cond := [Cond.fieldLink RX3 24 "ShelfStages$Goods" "size" "I", Cond.fieldLink RX3 9 "ShelfStages$Goods" "price" "[I", Cond.fieldLink RX3 15 "ShelfStages$Goods" "life" "[I", Cond.fieldLink RX3 18 "ShelfStages$Goods" "listed" "[I", Cond.methodLink RX8 54 yX0_copyFrom, Cond.instanceMethod yX0_copyFrom, Cond.selects RX0 yX0_copyFrom yX0_copyFrom, Cond.code yX0_copyFrom cX0_copyFrom 3 none, Cond.fieldLink RX0 9 "ShelfStages$Batches" "good" "[I", Cond.fieldLink RX0 15 "ShelfStages$Batches" "came" "[I", Cond.fieldLink RX0 18 "ShelfStages$Batches" "left" "[I", Cond.fieldLink RX0 21 "ShelfStages$Batches" "shelf" "[I", Cond.fieldLink RX0 24 "ShelfStages$Batches" "sold" "[I", Cond.fieldLink RX0 27 "ShelfStages$Batches" "given" "[I", Cond.fieldLink RX0 30 "ShelfStages$Batches" "cents" "[I", Cond.methodLink RX8 57 yX6_copyFrom, Cond.instanceMethod yX6_copyFrom, Cond.selects RX6 yX6_copyFrom yX6_copyFrom, Cond.code yX6_copyFrom cX6_copyFrom 2 none, Cond.fieldLink RX6 52 "ShelfStages$Orders" "takes" "I", Cond.fieldLink RX6 9 "ShelfStages$Orders" "good" "[I", Cond.fieldLink RX6 15 "ShelfStages$Orders" "wanted" "[I", Cond.fieldLink RX6 21 "ShelfStages$Orders" "replaced" "[I", Cond.fieldLink RX6 24 "ShelfStages$Orders" "least" "[I"]
def wsL_order_r10 : List Cond := [Cond.fieldLink RX6 27 "ShelfStages$Orders" "accepts" "[I", Cond.fieldLink RX6 30 "ShelfStages$Orders" "parts" "[I", Cond.fieldLink RX6 33 "ShelfStages$Orders" "due" "[I", Cond.fieldLink RX6 36 "ShelfStages$Orders" "day" "[I", Cond.fieldLink RX6 39 "ShelfStages$Orders" "firstTake" "[I", Cond.fieldLink RX6 42 "ShelfStages$Orders" "takeBatch" "[I", Cond.fieldLink RX6 45 "ShelfStages$Orders" "takeUnits" "[I", Cond.methodLink RX8 60 yX7_copyFrom, Cond.instanceMethod yX7_copyFrom, Cond.selects RX7 yX7_copyFrom yX7_copyFrom, Cond.code yX7_copyFrom cX7_copyFrom 3 none, Cond.fieldLink RX7 18 "ShelfStages$Stages" "markdown" "[F", Cond.methodLink RX8 63 yX5_copyFrom, Cond.instanceMethod yX5_copyFrom, Cond.selects RX5 yX5_copyFrom yX5_copyFrom, Cond.initialized RX5, Cond.code yX5_copyFrom cX5_copyFrom 2 none, Cond.fieldLink RX5 24 "ShelfStages$Log" "size" "I", Cond.fieldLink RX5 28 "ShelfStages$Log" "next" "I", Cond.fieldLink RX5 9 "ShelfStages$Log" "kind" "[I", Cond.fieldLink RX5 15 "ShelfStages$Log" "batch" "[I", Cond.fieldLink RX5 18 "ShelfStages$Log" "units" "[I", Cond.fieldLink RX5 21 "ShelfStages$Log" "day" "[I", Cond.methodLink RX9 175 yX6_append]
def wsL_order_r11 : List Cond := [Cond.instanceMethod yX6_append, Cond.selects RX6 yX6_append yX6_append, Cond.code yX6_append cX6_append 7 none, Cond.methodLink RX9 182 yX8_sell, Cond.instanceMethod yX8_sell, Cond.selects RX8 yX8_sell yX8_sell, Cond.code yX8_sell cX8_sell 5 none, Cond.fieldLink RX8 120 "ShelfStages$Filling" "size" "I", Cond.fieldLink RX8 123 "ShelfStages$Filling" "batch" "[I", Cond.fieldLink RX8 126 "ShelfStages$Filling" "units" "[I", Cond.fieldLink RX8 103 "ShelfStages$Batches" "shelf" "[I", Cond.fieldLink RX8 129 "ShelfStages$Batches" "sold" "[I", Cond.fieldLink RX8 132 "ShelfStages$Batches" "cents" "[I", Cond.fieldLink RX8 135 "ShelfStages$Filling" "cents" "[I", Cond.fieldLink RX8 140 "ShelfStages$Filling" "got" "I", Cond.fieldLink RX8 143 "ShelfStages$Filling" "replaced" "I", Cond.methodLink RX8 136 yX6_appendTake, Cond.instanceMethod yX6_appendTake, Cond.selects RX6 yX6_appendTake yX6_appendTake, Cond.code yX6_appendTake cX6_appendTake 3 none, Cond.methodLink RX8 117 yX5_append, Cond.instanceMethod yX5_append, Cond.selects RX5 yX5_append yX5_append, Cond.code yX5_append cX5_append 5 none]
def wsL_order_r12 : List Cond := [Cond.methodLink RX5 35 Lib.Math.min.name, Cond.methodLink RX8 146 yX2_due, Cond.methodLink RX8 150 yX6_endLast, Cond.instanceMethod yX6_endLast, Cond.selects RX6 yX6_endLast yX6_endLast, Cond.code yX6_endLast cX6_endLast 4 none, Cond.methodLink RL 56 yX9_orderTold, Cond.instanceMethod yX9_orderTold, Cond.selects RX9 yX9_orderTold yX9_orderTold, Cond.code yX9_orderTold cX9_orderTold 4 (some .int), Cond.fieldLink RX9 279 "ShelfStages$Orders" "good" "[I", Cond.fieldLink RX9 285 "ShelfStages$Orders" "replaced" "[I", Cond.fieldLink RX9 288 "ShelfStages$Orders" "least" "[I", Cond.fieldLink RX9 291 "ShelfStages$Orders" "accepts" "[I", Cond.fieldLink RX9 294 "ShelfStages$Orders" "parts" "[I", Cond.fieldLink RX9 300 "ShelfStages$Orders" "day" "[I", Cond.methodLink RX9 276 yX9_hasOrder, Cond.instanceMethod yX9_hasOrder, Cond.selects RX9 yX9_hasOrder yX9_hasOrder, Cond.code yX9_hasOrder cX9_hasOrder 2 (some .boolean), Cond.methodLink RL 74 yX9_event, Cond.instanceMethod yX9_event, Cond.selects RX9 yX9_event yX9_event, Cond.code yX9_event cX9_event 5 (some .int)]
def wsL_order_r13 : List Cond := [Cond.fieldLink RX9 320 "ShelfStages$State" "log" "LShelfStages$Log;", Cond.fieldLink RX9 324 "ShelfStages$Log" "size" "I", Cond.fieldLink RX9 330 "ShelfStages$Log" "kind" "[I", Cond.fieldLink RX9 333 "ShelfStages$Log" "batch" "[I", Cond.fieldLink RX9 336 "ShelfStages$Log" "units" "[I", Cond.fieldLink RX9 339 "ShelfStages$Log" "day" "[I", Cond.methodLink RX9 327 yX5_placeOf, Cond.instanceMethod yX5_placeOf, Cond.selects RX5 yX5_placeOf yX5_placeOf, Cond.code yX5_placeOf cX5_placeOf 2 (some .int), Cond.methodLink RX5 41 yJ9_floorMod_7cf53, Cond.static yJ9_floorMod_7cf53, Cond.initialized RJ9, Cond.code yJ9_floorMod_7cf53 cJ9_floorMod_7cf53 3 (some .int), Cond.methodLink RL 59 yX9_taken, Cond.instanceMethod yX9_taken, Cond.selects RX9 yX9_taken yX9_taken, Cond.code yX9_taken cX9_taken 5 (some .int), Cond.fieldLink RX9 302 "ShelfStages$Orders" "firstTake" "[I", Cond.fieldLink RX9 305 "ShelfStages$Orders" "takeBatch" "[I", Cond.fieldLink RX9 308 "ShelfStages$Orders" "takeUnits" "[I"]
def wsL_order : List Cond := .code yL_order cL_order 14 (some .boolean) :: ((wsL_order_r1 ++ (wsL_order_r2 ++ (wsL_order_r3 ++ (wsL_order_r4 ++ (wsL_order_r5 ++ (wsL_order_r6 ++ (wsL_order_r7 ++ (wsL_order_r8 ++ (wsL_order_r9 ++ (wsL_order_r10 ++ (wsL_order_r11 ++ (wsL_order_r12 ++ wsL_order_r13)))))))))))) ++ wsX90 ++ wsX20 ++ wsX80 ++ wsX30 ++ wsX00 ++ wsX70 ++ wsX60 ++ wsX40 ++ wsX50)
def wsL_pass_r1 : List Cond := [Cond.methodLink RL 41 yX9_count, Cond.instanceMethod yX9_count, Cond.selects RX9 yX9_count yX9_count, Cond.initialized RX9, Cond.code yX9_count cX9_count 4 (some .int), Cond.fieldLink RX9 12 "ShelfStages" "now" "LShelfStages$State;", Cond.fieldLink RX9 129 "ShelfStages$State" "batches" "LShelfStages$Batches;", Cond.fieldLink RX9 165 "ShelfStages$State" "orders" "LShelfStages$Orders;", Cond.fieldLink RX9 172 "ShelfStages$State" "day" "I", Cond.fieldLink RX9 51 "ShelfStages$State" "goods" "LShelfStages$Goods;", Cond.fieldLink RX9 55 "ShelfStages$Goods" "size" "I", Cond.fieldLink RX9 133 "ShelfStages$Batches" "size" "I", Cond.fieldLink RX9 169 "ShelfStages$Orders" "size" "I", Cond.fieldLink RX9 192 "ShelfStages$Batches" "shelf" "[I", Cond.fieldLink RX9 226 "ShelfStages$Batches" "sold" "[I", Cond.fieldLink RX9 244 "ShelfStages$Batches" "given" "[I", Cond.fieldLink RX9 250 "ShelfStages$Batches" "wasted" "[[I", Cond.fieldLink RX9 280 "ShelfStages$Orders" "wanted" "[I", Cond.fieldLink RX9 283 "ShelfStages$Orders" "got" "[I", Cond.fieldLink RX9 297 "ShelfStages$Orders" "due" "[I", Cond.fieldLink RX9 118 "ShelfStages$State" "settings" "[I", Cond.fieldLink RX9 25 "ShelfStages" "history" "LShelfStages$History;", Cond.fieldLink RX9 209 "ShelfStages$History" "size" "I", Cond.fieldLink RX9 140 "ShelfStages" "textLength" "I"]
def wsL_pass_r2 : List Cond := [Cond.methodLink RX9 340 yX0_sum, Cond.instanceMethod yX0_sum, Cond.selects RX0 yX0_sum yX0_sum, Cond.initialized RX0, Cond.code yX0_sum cX0_sum 4 (some .int), Cond.fieldLink RX0 38 "ShelfStages$Batches" "size" "I", Cond.methodLink RX9 344 yX0_wastedOfAll, Cond.instanceMethod yX0_wastedOfAll, Cond.selects RX0 yX0_wastedOfAll yX0_wastedOfAll, Cond.code yX0_wastedOfAll cX0_wastedOfAll 1 (some .int), Cond.fieldLink RX0 35 "ShelfStages$Batches" "wasted" "[[I", Cond.methodLink RX0 46 yX0_sum, Cond.methodLink RX9 347 yX6_sum, Cond.instanceMethod yX6_sum, Cond.selects RX6 yX6_sum yX6_sum, Cond.initialized RX6, Cond.code yX6_sum cX6_sum 4 (some .int), Cond.fieldLink RX6 48 "ShelfStages$Orders" "size" "I", Cond.methodLink RX9 348 yX6_refused, Cond.instanceMethod yX6_refused, Cond.selects RX6 yX6_refused yX6_refused, Cond.code yX6_refused cX6_refused 3 (some .int), Cond.fieldLink RX6 18 "ShelfStages$Orders" "got" "[I", Cond.methodLink RL 77 yX9_wouldExpire]
def wsL_pass_r3 : List Cond := [Cond.instanceMethod yX9_wouldExpire, Cond.selects RX9 yX9_wouldExpire yX9_wouldExpire, Cond.code yX9_wouldExpire cX9_wouldExpire 3 (some .int), Cond.fieldLink RX9 19 "ShelfStages" "trial" "LShelfStages$State;", Cond.methodLink RX9 189 yX9_hasBatch, Cond.instanceMethod yX9_hasBatch, Cond.selects RX9 yX9_hasBatch yX9_hasBatch, Cond.code yX9_hasBatch cX9_hasBatch 2 (some .boolean), Cond.methodLink RX9 47 yX9_within, Cond.static yX9_within, Cond.code yX9_within cX9_within 3 (some .boolean), Cond.methodLink RX9 213 yX8_copyFrom, Cond.instanceMethod yX8_copyFrom, Cond.selects RX8 yX8_copyFrom yX8_copyFrom, Cond.initialized RX8, Cond.code yX8_copyFrom cX8_copyFrom 2 none, Cond.fieldLink RX8 12 "ShelfStages$State" "goods" "LShelfStages$Goods;", Cond.fieldLink RX8 21 "ShelfStages$State" "batches" "LShelfStages$Batches;", Cond.fieldLink RX8 28 "ShelfStages$State" "orders" "LShelfStages$Orders;", Cond.fieldLink RX8 35 "ShelfStages$State" "stages" "LShelfStages$Stages;", Cond.fieldLink RX8 42 "ShelfStages$State" "log" "LShelfStages$Log;", Cond.fieldLink RX8 46 "ShelfStages$State" "settings" "[I", Cond.fieldLink RX8 70 "ShelfStages$State" "rebate" "F", Cond.fieldLink RX8 74 "ShelfStages$State" "day" "I"]
def wsL_pass_r4 : List Cond := [Cond.methodLink RX8 50 yX3_copyFrom, Cond.instanceMethod yX3_copyFrom, Cond.selects RX3 yX3_copyFrom yX3_copyFrom, Cond.initialized RX3, Cond.code yX3_copyFrom cX3_copyFrom 2 none, Cond.fieldLink RX3 24 "ShelfStages$Goods" "size" "I", Cond.fieldLink RX3 9 "ShelfStages$Goods" "price" "[I", Cond.fieldLink RX3 15 "ShelfStages$Goods" "life" "[I", Cond.fieldLink RX3 18 "ShelfStages$Goods" "listed" "[I", Cond.fieldLink RX3 21 "ShelfStages$Goods" "list" "[I", Cond.static yX9_copyRow, Cond.code yX9_copyRow cX9_copyRow 2 none, Cond.methodLink RX9 357 Lib.Math.min.name, Cond.static Lib.Math.min.name, Cond.initialized "java/lang/Math", Cond.code Lib.Math.min.name Lib.Math.min.code 2 (some .int), Cond.methodLink RX9 362 arraycopyName, Cond.native arraycopyName, Cond.static arraycopyName, Cond.initialized "java/lang/System", Cond.methodLink RX8 54 yX0_copyFrom, Cond.instanceMethod yX0_copyFrom, Cond.selects RX0 yX0_copyFrom yX0_copyFrom, Cond.code yX0_copyFrom cX0_copyFrom 3 none]
def wsL_pass_r5 : List Cond := [Cond.fieldLink RX0 9 "ShelfStages$Batches" "good" "[I", Cond.fieldLink RX0 15 "ShelfStages$Batches" "came" "[I", Cond.fieldLink RX0 18 "ShelfStages$Batches" "left" "[I", Cond.fieldLink RX0 21 "ShelfStages$Batches" "shelf" "[I", Cond.fieldLink RX0 24 "ShelfStages$Batches" "sold" "[I", Cond.fieldLink RX0 27 "ShelfStages$Batches" "given" "[I", Cond.fieldLink RX0 30 "ShelfStages$Batches" "cents" "[I", Cond.methodLink RX8 57 yX6_copyFrom, Cond.instanceMethod yX6_copyFrom, Cond.selects RX6 yX6_copyFrom yX6_copyFrom, Cond.code yX6_copyFrom cX6_copyFrom 2 none, Cond.fieldLink RX6 52 "ShelfStages$Orders" "takes" "I", Cond.fieldLink RX6 9 "ShelfStages$Orders" "good" "[I", Cond.fieldLink RX6 15 "ShelfStages$Orders" "wanted" "[I", Cond.fieldLink RX6 21 "ShelfStages$Orders" "replaced" "[I", Cond.fieldLink RX6 24 "ShelfStages$Orders" "least" "[I", Cond.fieldLink RX6 27 "ShelfStages$Orders" "accepts" "[I", Cond.fieldLink RX6 30 "ShelfStages$Orders" "parts" "[I", Cond.fieldLink RX6 33 "ShelfStages$Orders" "due" "[I", Cond.fieldLink RX6 36 "ShelfStages$Orders" "day" "[I", Cond.fieldLink RX6 39 "ShelfStages$Orders" "firstTake" "[I", Cond.fieldLink RX6 42 "ShelfStages$Orders" "takeBatch" "[I", Cond.fieldLink RX6 45 "ShelfStages$Orders" "takeUnits" "[I", Cond.methodLink RX8 60 yX7_copyFrom]
def wsL_pass_r6 : List Cond := [Cond.instanceMethod yX7_copyFrom, Cond.selects RX7 yX7_copyFrom yX7_copyFrom, Cond.initialized RX7, Cond.code yX7_copyFrom cX7_copyFrom 3 none, Cond.fieldLink RX7 9 "ShelfStages$Stages" "share" "[I", Cond.fieldLink RX7 18 "ShelfStages$Stages" "markdown" "[F", Cond.methodLink RX8 63 yX5_copyFrom, Cond.instanceMethod yX5_copyFrom, Cond.selects RX5 yX5_copyFrom yX5_copyFrom, Cond.initialized RX5, Cond.code yX5_copyFrom cX5_copyFrom 2 none, Cond.fieldLink RX5 24 "ShelfStages$Log" "size" "I", Cond.fieldLink RX5 28 "ShelfStages$Log" "next" "I", Cond.fieldLink RX5 9 "ShelfStages$Log" "kind" "[I", Cond.fieldLink RX5 15 "ShelfStages$Log" "batch" "[I", Cond.fieldLink RX5 18 "ShelfStages$Log" "units" "[I", Cond.fieldLink RX5 21 "ShelfStages$Log" "day" "[I", Cond.methodLink RX9 206 yX8_passDays, Cond.instanceMethod yX8_passDays, Cond.selects RX8 yX8_passDays yX8_passDays, Cond.code yX8_passDays cX8_passDays 4 (some .int), Cond.methodLink RX8 164 yX0_age, Cond.instanceMethod yX0_age, Cond.selects RX0 yX0_age yX0_age]
def wsL_pass_r7 : List Cond := [Cond.code yX0_age cX0_age 2 none, Cond.methodLink RX8 167 yX8_expire, Cond.instanceMethod yX8_expire, Cond.selects RX8 yX8_expire yX8_expire, Cond.code yX8_expire cX8_expire 4 (some .int), Cond.fieldLink RX8 106 "ShelfStages$Batches" "size" "I", Cond.fieldLink RX8 103 "ShelfStages$Batches" "shelf" "[I", Cond.fieldLink RX8 78 "ShelfStages$Batches" "left" "[I", Cond.methodLink RX8 161 yX8_waste, Cond.instanceMethod yX8_waste, Cond.selects RX8 yX8_waste yX8_waste, Cond.code yX8_waste cX8_waste 4 none, Cond.fieldLink RX8 157 "ShelfStages$Batches" "wasted" "[[I", Cond.methodLink RX8 117 yX5_append, Cond.instanceMethod yX5_append, Cond.selects RX5 yX5_append yX5_append, Cond.code yX5_append cX5_append 5 none, Cond.methodLink RX5 35 Lib.Math.min.name, Cond.methodLink RX8 171 yX8_donate, Cond.instanceMethod yX8_donate, Cond.selects RX8 yX8_donate yX8_donate, Cond.code yX8_donate cX8_donate 4 none, Cond.methodLink RX8 174 Lib.Math.min.name, Cond.methodLink RX8 98 yX8_stageOf]
def wsL_pass_r8 : List Cond := [Cond.instanceMethod yX8_stageOf, Cond.selects RX8 yX8_stageOf yX8_stageOf, Cond.code yX8_stageOf cX8_stageOf 2 (some .int), Cond.fieldLink RX8 81 "ShelfStages$Goods" "life" "[I", Cond.fieldLink RX8 84 "ShelfStages$Batches" "good" "[I", Cond.methodLink RX8 87 yX7_reached, Cond.instanceMethod yX7_reached, Cond.selects RX7 yX7_reached yX7_reached, Cond.code yX7_reached cX7_reached 4 (some .int), Cond.methodLink RX8 179 yX8_give, Cond.instanceMethod yX8_give, Cond.selects RX8 yX8_give yX8_give, Cond.code yX8_give cX8_give 3 none, Cond.fieldLink RX8 154 "ShelfStages$Batches" "given" "[I", Cond.methodLink RL 35 yX9_batch, Cond.instanceMethod yX9_batch, Cond.selects RX9 yX9_batch yX9_batch, Cond.code yX9_batch cX9_batch 4 (some .int), Cond.fieldLink RX9 235 "ShelfStages$Batches" "good" "[I", Cond.fieldLink RX9 238 "ShelfStages$Batches" "came" "[I", Cond.fieldLink RX9 241 "ShelfStages$Batches" "left" "[I", Cond.fieldLink RX9 257 "ShelfStages$Batches" "cents" "[I", Cond.methodLink RX9 247 yX0_wastedOf, Cond.instanceMethod yX0_wastedOf]
def wsL_pass_r9 : List Cond := [Cond.selects RX0 yX0_wastedOf yX0_wastedOf, Cond.code yX0_wastedOf cX0_wastedOf 2 (some .int), Cond.methodLink RX9 254 yX8_stageOf, Cond.methodLink RL 80 yX9_pass, Cond.instanceMethod yX9_pass, Cond.selects RX9 yX9_pass yX9_pass, Cond.code yX9_pass cX9_pass 2 (some .int), Cond.methodLink RX9 61 yX4_push, Cond.instanceMethod yX4_push, Cond.selects RX4 yX4_push yX4_push, Cond.initialized RX4, Cond.code yX4_push cX4_push 2 none, Cond.fieldLink RX4 18 "ShelfStages$History" "size" "I", Cond.fieldLink RX4 22 "ShelfStages$History" "oldest" "I", Cond.fieldLink RX4 11 "ShelfStages$History" "states" "[LShelfStages$State;", Cond.methodLink RX4 25 yX8_copyFrom]
def wsL_pass : List Cond := .code yL_pass cL_pass 7 (some .boolean) :: ((wsL_pass_r1 ++ (wsL_pass_r2 ++ (wsL_pass_r3 ++ (wsL_pass_r4 ++ (wsL_pass_r5 ++ (wsL_pass_r6 ++ (wsL_pass_r7 ++ (wsL_pass_r8 ++ wsL_pass_r9)))))))) ++ wsX90 ++ wsX80 ++ wsX30 ++ wsX00 ++ wsX60 ++ wsX40 ++ wsX70 ++ wsX50)
def wsL_stageIn_r1 : List Cond := [Cond.methodLink RL 83 yX9_stageIn, Cond.instanceMethod yX9_stageIn, Cond.selects RX9 yX9_stageIn yX9_stageIn, Cond.initialized RX9, Cond.code yX9_stageIn cX9_stageIn 6 (some .int), Cond.fieldLink RX9 12 "ShelfStages" "now" "LShelfStages$State;", Cond.fieldLink RX9 129 "ShelfStages$State" "batches" "LShelfStages$Batches;", Cond.fieldLink RX9 192 "ShelfStages$Batches" "shelf" "[I", Cond.fieldLink RX9 241 "ShelfStages$Batches" "left" "[I", Cond.fieldLink RX9 51 "ShelfStages$State" "goods" "LShelfStages$Goods;", Cond.fieldLink RX9 220 "ShelfStages$Goods" "life" "[I", Cond.fieldLink RX9 235 "ShelfStages$Batches" "good" "[I", Cond.fieldLink RX9 94 "ShelfStages$State" "stages" "LShelfStages$Stages;", Cond.methodLink RX9 189 yX9_hasBatch, Cond.instanceMethod yX9_hasBatch, Cond.selects RX9 yX9_hasBatch yX9_hasBatch, Cond.code yX9_hasBatch cX9_hasBatch 2 (some .boolean), Cond.fieldLink RX9 133 "ShelfStages$Batches" "size" "I", Cond.methodLink RX9 47 yX9_within, Cond.static yX9_within, Cond.code yX9_within cX9_within 3 (some .boolean), Cond.methodLink RX9 317 yX7_reached, Cond.instanceMethod yX7_reached, Cond.selects RX7 yX7_reached yX7_reached]
def wsL_stageIn_r2 : List Cond := [Cond.initialized RX7, Cond.code yX7_reached cX7_reached 4 (some .int), Cond.fieldLink RX7 9 "ShelfStages$Stages" "share" "[I", Cond.methodLink RL 35 yX9_batch, Cond.instanceMethod yX9_batch, Cond.selects RX9 yX9_batch yX9_batch, Cond.code yX9_batch cX9_batch 4 (some .int), Cond.fieldLink RX9 238 "ShelfStages$Batches" "came" "[I", Cond.fieldLink RX9 226 "ShelfStages$Batches" "sold" "[I", Cond.fieldLink RX9 244 "ShelfStages$Batches" "given" "[I", Cond.fieldLink RX9 250 "ShelfStages$Batches" "wasted" "[[I", Cond.fieldLink RX9 257 "ShelfStages$Batches" "cents" "[I", Cond.methodLink RX9 247 yX0_wastedOf, Cond.instanceMethod yX0_wastedOf, Cond.selects RX0 yX0_wastedOf yX0_wastedOf, Cond.initialized RX0, Cond.code yX0_wastedOf cX0_wastedOf 2 (some .int), Cond.fieldLink RX0 35 "ShelfStages$Batches" "wasted" "[[I", Cond.methodLink RX9 254 yX8_stageOf, Cond.instanceMethod yX8_stageOf, Cond.selects RX8 yX8_stageOf yX8_stageOf, Cond.initialized RX8, Cond.code yX8_stageOf cX8_stageOf 2 (some .int), Cond.fieldLink RX8 35 "ShelfStages$State" "stages" "LShelfStages$Stages;"]
def wsL_stageIn_r3 : List Cond := [Cond.fieldLink RX8 21 "ShelfStages$State" "batches" "LShelfStages$Batches;", Cond.fieldLink RX8 78 "ShelfStages$Batches" "left" "[I", Cond.fieldLink RX8 12 "ShelfStages$State" "goods" "LShelfStages$Goods;", Cond.fieldLink RX8 81 "ShelfStages$Goods" "life" "[I", Cond.fieldLink RX8 84 "ShelfStages$Batches" "good" "[I", Cond.methodLink RX8 87 yX7_reached, Cond.methodLink RL 41 yX9_count, Cond.instanceMethod yX9_count, Cond.selects RX9 yX9_count yX9_count, Cond.code yX9_count cX9_count 4 (some .int), Cond.fieldLink RX9 165 "ShelfStages$State" "orders" "LShelfStages$Orders;", Cond.fieldLink RX9 172 "ShelfStages$State" "day" "I", Cond.fieldLink RX9 55 "ShelfStages$Goods" "size" "I", Cond.fieldLink RX9 169 "ShelfStages$Orders" "size" "I", Cond.fieldLink RX9 280 "ShelfStages$Orders" "wanted" "[I", Cond.fieldLink RX9 283 "ShelfStages$Orders" "got" "[I", Cond.fieldLink RX9 297 "ShelfStages$Orders" "due" "[I", Cond.fieldLink RX9 118 "ShelfStages$State" "settings" "[I", Cond.fieldLink RX9 25 "ShelfStages" "history" "LShelfStages$History;", Cond.fieldLink RX9 209 "ShelfStages$History" "size" "I", Cond.fieldLink RX9 140 "ShelfStages" "textLength" "I", Cond.methodLink RX9 340 yX0_sum, Cond.instanceMethod yX0_sum, Cond.selects RX0 yX0_sum yX0_sum]
def wsL_stageIn_r4 : List Cond := [Cond.code yX0_sum cX0_sum 4 (some .int), Cond.fieldLink RX0 38 "ShelfStages$Batches" "size" "I", Cond.methodLink RX9 344 yX0_wastedOfAll, Cond.instanceMethod yX0_wastedOfAll, Cond.selects RX0 yX0_wastedOfAll yX0_wastedOfAll, Cond.code yX0_wastedOfAll cX0_wastedOfAll 1 (some .int), Cond.methodLink RX0 46 yX0_sum, Cond.methodLink RX9 347 yX6_sum, Cond.instanceMethod yX6_sum, Cond.selects RX6 yX6_sum yX6_sum, Cond.initialized RX6, Cond.code yX6_sum cX6_sum 4 (some .int), Cond.fieldLink RX6 48 "ShelfStages$Orders" "size" "I", Cond.methodLink RX9 348 yX6_refused, Cond.instanceMethod yX6_refused, Cond.selects RX6 yX6_refused yX6_refused, Cond.code yX6_refused cX6_refused 3 (some .int), Cond.fieldLink RX6 18 "ShelfStages$Orders" "got" "[I", Cond.methodLink RL 86 yX9_set, Cond.instanceMethod yX9_set, Cond.selects RX9 yX9_set yX9_set, Cond.code yX9_set cX9_set 4 (some .int), Cond.methodLink RX9 115 yX9_isSetting, Cond.static yX9_isSetting]
def wsL_stageIn_r5 : List Cond := [Cond.code yX9_isSetting cX9_isSetting 2 (some .boolean), Cond.methodLink RX9 61 yX4_push, Cond.instanceMethod yX4_push, Cond.selects RX4 yX4_push yX4_push, Cond.initialized RX4, Cond.code yX4_push cX4_push 2 none, Cond.fieldLink RX4 18 "ShelfStages$History" "size" "I", Cond.fieldLink RX4 22 "ShelfStages$History" "oldest" "I", Cond.fieldLink RX4 11 "ShelfStages$History" "states" "[LShelfStages$State;", Cond.methodLink RX4 25 yX8_copyFrom, Cond.instanceMethod yX8_copyFrom, Cond.selects RX8 yX8_copyFrom yX8_copyFrom, Cond.code yX8_copyFrom cX8_copyFrom 2 none, Cond.fieldLink RX8 28 "ShelfStages$State" "orders" "LShelfStages$Orders;", Cond.fieldLink RX8 42 "ShelfStages$State" "log" "LShelfStages$Log;", Cond.fieldLink RX8 46 "ShelfStages$State" "settings" "[I", Cond.fieldLink RX8 70 "ShelfStages$State" "rebate" "F", Cond.fieldLink RX8 74 "ShelfStages$State" "day" "I", Cond.methodLink RX8 50 yX3_copyFrom, Cond.instanceMethod yX3_copyFrom, Cond.selects RX3 yX3_copyFrom yX3_copyFrom, Cond.initialized RX3, Cond.code yX3_copyFrom cX3_copyFrom 2 none, Cond.fieldLink RX3 24 "ShelfStages$Goods" "size" "I"]
def wsL_stageIn_r6 : List Cond := [Cond.fieldLink RX3 9 "ShelfStages$Goods" "price" "[I", Cond.fieldLink RX3 15 "ShelfStages$Goods" "life" "[I", Cond.fieldLink RX3 18 "ShelfStages$Goods" "listed" "[I", Cond.fieldLink RX3 21 "ShelfStages$Goods" "list" "[I", Cond.static yX9_copyRow, Cond.code yX9_copyRow cX9_copyRow 2 none, Cond.methodLink RX9 357 Lib.Math.min.name, Cond.static Lib.Math.min.name, Cond.initialized "java/lang/Math", Cond.code Lib.Math.min.name Lib.Math.min.code 2 (some .int), Cond.methodLink RX9 362 arraycopyName, Cond.native arraycopyName, Cond.static arraycopyName, Cond.initialized "java/lang/System", Cond.methodLink RX8 54 yX0_copyFrom, Cond.instanceMethod yX0_copyFrom, Cond.selects RX0 yX0_copyFrom yX0_copyFrom, Cond.code yX0_copyFrom cX0_copyFrom 3 none, Cond.fieldLink RX0 9 "ShelfStages$Batches" "good" "[I", Cond.fieldLink RX0 15 "ShelfStages$Batches" "came" "[I", Cond.fieldLink RX0 18 "ShelfStages$Batches" "left" "[I", Cond.fieldLink RX0 21 "ShelfStages$Batches" "shelf" "[I", Cond.fieldLink RX0 24 "ShelfStages$Batches" "sold" "[I", Cond.fieldLink RX0 27 "ShelfStages$Batches" "given" "[I"]
def wsL_stageIn_r7 : List Cond := [Cond.fieldLink RX0 30 "ShelfStages$Batches" "cents" "[I", Cond.methodLink RX8 57 yX6_copyFrom, Cond.instanceMethod yX6_copyFrom, Cond.selects RX6 yX6_copyFrom yX6_copyFrom, Cond.code yX6_copyFrom cX6_copyFrom 2 none, Cond.fieldLink RX6 52 "ShelfStages$Orders" "takes" "I", Cond.fieldLink RX6 9 "ShelfStages$Orders" "good" "[I", Cond.fieldLink RX6 15 "ShelfStages$Orders" "wanted" "[I", Cond.fieldLink RX6 21 "ShelfStages$Orders" "replaced" "[I", Cond.fieldLink RX6 24 "ShelfStages$Orders" "least" "[I", Cond.fieldLink RX6 27 "ShelfStages$Orders" "accepts" "[I", Cond.fieldLink RX6 30 "ShelfStages$Orders" "parts" "[I", Cond.fieldLink RX6 33 "ShelfStages$Orders" "due" "[I", Cond.fieldLink RX6 36 "ShelfStages$Orders" "day" "[I", Cond.fieldLink RX6 39 "ShelfStages$Orders" "firstTake" "[I", Cond.fieldLink RX6 42 "ShelfStages$Orders" "takeBatch" "[I", Cond.fieldLink RX6 45 "ShelfStages$Orders" "takeUnits" "[I", Cond.methodLink RX8 60 yX7_copyFrom, Cond.instanceMethod yX7_copyFrom, Cond.selects RX7 yX7_copyFrom yX7_copyFrom, Cond.code yX7_copyFrom cX7_copyFrom 3 none, Cond.fieldLink RX7 18 "ShelfStages$Stages" "markdown" "[F", Cond.methodLink RX8 63 yX5_copyFrom, Cond.instanceMethod yX5_copyFrom]
def wsL_stageIn_r8 : List Cond := [Cond.selects RX5 yX5_copyFrom yX5_copyFrom, Cond.initialized RX5, Cond.code yX5_copyFrom cX5_copyFrom 2 none, Cond.fieldLink RX5 24 "ShelfStages$Log" "size" "I", Cond.fieldLink RX5 28 "ShelfStages$Log" "next" "I", Cond.fieldLink RX5 9 "ShelfStages$Log" "kind" "[I", Cond.fieldLink RX5 15 "ShelfStages$Log" "batch" "[I", Cond.fieldLink RX5 18 "ShelfStages$Log" "units" "[I", Cond.fieldLink RX5 21 "ShelfStages$Log" "day" "[I", Cond.methodLink RL 80 yX9_pass, Cond.instanceMethod yX9_pass, Cond.selects RX9 yX9_pass yX9_pass, Cond.code yX9_pass cX9_pass 2 (some .int), Cond.methodLink RX9 206 yX8_passDays, Cond.instanceMethod yX8_passDays, Cond.selects RX8 yX8_passDays yX8_passDays, Cond.code yX8_passDays cX8_passDays 4 (some .int), Cond.methodLink RX8 164 yX0_age, Cond.instanceMethod yX0_age, Cond.selects RX0 yX0_age yX0_age, Cond.code yX0_age cX0_age 2 none, Cond.methodLink RX8 167 yX8_expire, Cond.instanceMethod yX8_expire, Cond.selects RX8 yX8_expire yX8_expire]
def wsL_stageIn_r9 : List Cond := [Cond.code yX8_expire cX8_expire 4 (some .int), Cond.fieldLink RX8 106 "ShelfStages$Batches" "size" "I", Cond.fieldLink RX8 103 "ShelfStages$Batches" "shelf" "[I", Cond.methodLink RX8 161 yX8_waste, Cond.instanceMethod yX8_waste, Cond.selects RX8 yX8_waste yX8_waste, Cond.code yX8_waste cX8_waste 4 none, Cond.fieldLink RX8 157 "ShelfStages$Batches" "wasted" "[[I", Cond.methodLink RX8 117 yX5_append, Cond.instanceMethod yX5_append, Cond.selects RX5 yX5_append yX5_append, Cond.code yX5_append cX5_append 5 none, Cond.methodLink RX5 35 Lib.Math.min.name, Cond.methodLink RX8 171 yX8_donate, Cond.instanceMethod yX8_donate, Cond.selects RX8 yX8_donate yX8_donate, Cond.code yX8_donate cX8_donate 4 none, Cond.methodLink RX8 174 Lib.Math.min.name, Cond.methodLink RX8 98 yX8_stageOf, Cond.methodLink RX8 179 yX8_give, Cond.instanceMethod yX8_give, Cond.selects RX8 yX8_give yX8_give, Cond.code yX8_give cX8_give 3 none, Cond.fieldLink RX8 154 "ShelfStages$Batches" "given" "[I"]
def wsL_stageIn_r10 : List Cond := [Cond.methodLink RL 89 yX9_undo, Cond.instanceMethod yX9_undo, Cond.selects RX9 yX9_undo yX9_undo, Cond.code yX9_undo cX9_undo 1 (some .int), Cond.methodLink RX9 210 yX4_popInto, Cond.instanceMethod yX4_popInto, Cond.selects RX4 yX4_popInto yX4_popInto, Cond.code yX4_popInto cX4_popInto 2 none]
def wsL_stageIn : List Cond := .code yL_stageIn cL_stageIn 8 (some .boolean) :: ((wsL_stageIn_r1 ++ (wsL_stageIn_r2 ++ (wsL_stageIn_r3 ++ (wsL_stageIn_r4 ++ (wsL_stageIn_r5 ++ (wsL_stageIn_r6 ++ (wsL_stageIn_r7 ++ (wsL_stageIn_r8 ++ (wsL_stageIn_r9 ++ wsL_stageIn_r10))))))))) ++ wsX90 ++ wsX80 ++ wsX00 ++ wsX30 ++ wsX70 ++ wsX60 ++ wsX40 ++ wsX50)
theorem dL_cell_0 : decode cL_cell 0 = .ok (.iload_n 1, 1) := by decide +kernel
theorem dL_cell_1 : decode cL_cell 1 = .ok (.aload_n 0, 1) := by decide +kernel
theorem dL_cell_2 : decode cL_cell 2 = .ok (.arraylength, 1) := by decide +kernel
theorem dL_cell_3 : decode cL_cell 3 = .ok (.if_icmp .ge 9, 3) := by decide +kernel
theorem dL_cell_6 : decode cL_cell 6 = .ok (.aload_n 0, 1) := by decide +kernel
theorem dL_cell_7 : decode cL_cell 7 = .ok (.iload_n 1, 1) := by decide +kernel
theorem dL_cell_8 : decode cL_cell 8 = .ok (.iaload, 1) := by decide +kernel
theorem dL_cell_9 : decode cL_cell 9 = .ok (.goto 10, 3) := by decide +kernel
theorem dL_cell_12 : decode cL_cell 12 = .ok (.ldc 7, 2) := by decide +kernel
theorem dL_cell_14 : decode cL_cell 14 = .ok (.iload_n 1, 1) := by decide +kernel
theorem dL_cell_15 : decode cL_cell 15 = .ok (.imul, 1) := by decide +kernel
theorem dL_cell_16 : decode cL_cell 16 = .ok (.ldc 8, 2) := by decide +kernel
theorem dL_cell_18 : decode cL_cell 18 = .ok (.iadd, 1) := by decide +kernel
theorem dL_cell_19 : decode cL_cell 19 = .ok (.ireturn, 1) := by decide +kernel
theorem dL_low_0 : decode cL_low 0 = .ok (.iload_n 0, 1) := by decide +kernel
theorem dL_low_1 : decode cL_low 1 = .ok (.ldc 9, 2) := by decide +kernel
theorem dL_low_3 : decode cL_low 3 = .ok (.iand, 1) := by decide +kernel
theorem dL_low_4 : decode cL_low 4 = .ok (.iload_n 1, 1) := by decide +kernel
theorem dL_low_5 : decode cL_low 5 = .ok (.irem, 1) := by decide +kernel
theorem dL_low_6 : decode cL_low 6 = .ok (.ireturn, 1) := by decide +kernel
set_option maxRecDepth 20000 in
theorem ggL_goods_L_cell : GoodIn wsL_goods wsL_cell := goodIn_r _ [4, 5, 6] (by decide +kernel) (by decide +kernel)
set_option maxRecDepth 20000 in
theorem gL_goods_L_cell : GoodIn wsL_goods (va_wsS RL 10 yL_cell wsL_cell) := goodIn_app (goodIn_of _ (by decide +kernel)) ggL_goods_L_cell
set_option maxRecDepth 20000 in
theorem ggL_goods_L_low : GoodIn wsL_goods wsL_low := goodIn_r _ [9, 10] (by decide +kernel) (by decide +kernel)
set_option maxRecDepth 20000 in
theorem gL_goods_L_low : GoodIn wsL_goods (va_wsS RL 16 yL_low wsL_low) := goodIn_app (goodIn_of _ (by decide +kernel)) ggL_goods_L_low
set_option maxRecDepth 20000 in
theorem ggL_goods_X9_addGood : GoodIn wsL_goods wsX9_addGood := goodIn_r _ [15, 16, 17, 18, 19, 20, 21, 14, 22, 23, 24, 25, 26, 27, 28, 29, 30, 31, 32, 33, 34, 35, 36, 37, 38, 39, 40, 41, 42, 43, 44, 45, 46, 47, 48, 49, 50, 51, 52, 53, 54, 55, 56, 57, 58, 59, 60, 61, 62, 63, 64, 65, 66, 67, 68, 69, 70, 71, 72, 73, 74, 75, 76, 77, 78, 79, 80, 81, 82, 83, 84, 85, 86, 87, 88, 89, 90, 91, 92, 93, 94, 95, 96, 97, 98, 99, 100, 101, 102, 103, 104, 105, 106, 107, 108, 109, 110, 111, 112, 113, 114, 115, 116, 117, 118, 171, 172, 173, 174, 175, 176, 177, 178, 179, 180, 181, 182, 183, 184, 185, 186, 187, 188, 189, 190, 191, 192, 193, 194, 195, 196, 197, 198, 199, 200, 201, 202, 203, 204, 205, 206, 207, 208, 209, 210, 211, 212, 213, 214, 215, 216, 217, 218, 219, 220, 221, 222, 223, 224, 225, 226] (by decide +kernel) (by decide +kernel)
set_option maxRecDepth 20000 in
theorem gL_goods_X9_addGood : GoodIn wsL_goods (wsV RL 20 RX9 yX9_addGood wsX9_addGood) := goodIn_app (goodIn_of _ (by decide +kernel)) ggL_goods_X9_addGood
set_option maxRecDepth 20000 in
theorem ggL_goods_X9_good : GoodIn wsL_goods wsX9_good := goodIn_r _ [122, 16, 123, 17, 124, 125, 126, 127, 128, 129, 130, 131, 132, 14, 133, 18, 20, 21, 22, 134, 135, 136, 67, 137, 69, 70, 138, 139, 140, 141, 142, 143, 144, 81, 145, 83, 85, 87, 171, 172, 173, 174, 175, 176, 177, 178, 179, 180, 181, 182, 183, 184, 185, 186, 187, 188, 189, 190, 191, 192, 196, 197, 198, 199, 200, 201, 202, 203, 204, 205, 206, 207, 208, 209, 210, 211, 212, 213, 214, 215, 216, 217, 218] (by decide +kernel) (by decide +kernel)
set_option maxRecDepth 20000 in
theorem gL_goods_X9_good : GoodIn wsL_goods (wsV RL 25 RX9 yX9_good wsX9_good) := goodIn_app (goodIn_of _ (by decide +kernel)) ggL_goods_X9_good
set_option maxRecDepth 20000 in
theorem ggL_goods_X9_substitute : GoodIn wsL_goods wsX9_substitute := goodIn_r _ [149, 16, 17, 150, 151, 152, 14, 153, 126, 130, 131, 132, 133, 18, 20, 21, 22, 154, 155, 156, 47, 157, 53, 171, 172, 173, 174, 175, 176, 177, 178, 179, 180, 181, 182, 183, 184, 185, 186, 187, 188, 189, 190, 191, 192] (by decide +kernel) (by decide +kernel)
set_option maxRecDepth 20000 in
theorem gL_goods_X9_substitute : GoodIn wsL_goods (wsV RL 28 RX9 yX9_substitute wsX9_substitute) := goodIn_app (goodIn_of _ (by decide +kernel)) ggL_goods_X9_substitute
set_option maxRecDepth 20000 in
theorem ggL_goods_X9_addSubstitute : GoodIn wsL_goods wsX9_addSubstitute := goodIn_r _ [161, 16, 17, 126, 19, 130, 131, 132, 14, 133, 18, 20, 21, 22, 162, 163, 164, 47, 165, 52, 166, 155, 156, 157, 53, 23, 24, 25, 26, 27, 28, 29, 30, 31, 32, 33, 34, 35, 36, 37, 38, 39, 40, 41, 42, 43, 44, 45, 46, 48, 49, 50, 51, 54, 55, 56, 57, 58, 59, 60, 61, 62, 63, 64, 65, 66, 67, 68, 69, 70, 71, 72, 73, 74, 75, 76, 77, 78, 79, 80, 81, 82, 83, 84, 85, 86, 87, 88, 89, 90, 91, 92, 93, 94, 95, 96, 97, 98, 99, 100, 101, 102, 103, 104, 105, 106, 107, 108, 109, 110, 111, 112, 113, 114, 167, 168, 169, 170, 171, 172, 173, 174, 175, 176, 177, 178, 179, 180, 181, 182, 183, 184, 185, 186, 187, 188, 189, 190, 191, 192, 193, 194, 195, 196, 197, 198, 199, 200, 201, 202, 203, 204, 205, 206, 207, 208, 209, 210, 211, 212, 213, 214, 215, 216, 217, 218, 219, 220, 221, 222, 223, 224, 225, 226] (by decide +kernel) (by decide +kernel)
set_option maxRecDepth 20000 in
theorem gL_goods_X9_addSubstitute : GoodIn wsL_goods (wsV RL 31 RX9 yX9_addSubstitute wsX9_addSubstitute) := goodIn_app (goodIn_of _ (by decide +kernel)) ggL_goods_X9_addSubstitute
theorem dL_goods_0 : decode cL_goods 0 = .ok (.iconst 1, 1) := by decide +kernel
theorem dL_goods_1 : decode cL_goods 1 = .ok (.istore_n 3, 1) := by decide +kernel
theorem dL_goods_2 : decode cL_goods 2 = .ok (.iconst 0, 1) := by decide +kernel
theorem dL_goods_3 : decode cL_goods 3 = .ok (.istore 4, 2) := by decide +kernel
theorem dL_goods_5 : decode cL_goods 5 = .ok (.iload 4, 2) := by decide +kernel
theorem dL_goods_7 : decode cL_goods 7 = .ok (.iload_n 2, 1) := by decide +kernel
theorem dL_goods_8 : decode cL_goods 8 = .ok (.if_icmp .ge 78, 3) := by decide +kernel
theorem dL_goods_11 : decode cL_goods 11 = .ok (.iload_n 3, 1) := by decide +kernel
theorem dL_goods_12 : decode cL_goods 12 = .ok (.ifCond .eq 74, 3) := by decide +kernel
theorem dL_goods_15 : decode cL_goods 15 = .ok (.aload_n 1, 1) := by decide +kernel
theorem dL_goods_16 : decode cL_goods 16 = .ok (.iconst 2, 1) := by decide +kernel
theorem dL_goods_17 : decode cL_goods 17 = .ok (.iload 4, 2) := by decide +kernel
theorem dL_goods_19 : decode cL_goods 19 = .ok (.iadd, 1) := by decide +kernel
theorem dL_goods_20 : decode cL_goods 20 = .ok (.invokestatic 10, 3) := by decide +kernel
theorem dL_goods_23 : decode cL_goods 23 = .ok (.istore 5, 2) := by decide +kernel
theorem dL_goods_25 : decode cL_goods 25 = .ok (.aload_n 0, 1) := by decide +kernel
theorem dL_goods_26 : decode cL_goods 26 = .ok (.iconst 1, 1) := by decide +kernel
theorem dL_goods_27 : decode cL_goods 27 = .ok (.iload 5, 2) := by decide +kernel
theorem dL_goods_29 : decode cL_goods 29 = .ok (.iload 5, 2) := by decide +kernel
theorem dL_goods_31 : decode cL_goods 31 = .ok (.bipush 20, 2) := by decide +kernel
theorem dL_goods_33 : decode cL_goods 33 = .ok (.ishr, 1) := by decide +kernel
theorem dL_goods_34 : decode cL_goods 34 = .ok (.iconst 2, 1) := by decide +kernel
theorem dL_goods_35 : decode cL_goods 35 = .ok (.invokestatic 16, 3) := by decide +kernel
theorem dL_goods_38 : decode cL_goods 38 = .ok (.ifCond .ne 9, 3) := by decide +kernel
theorem dL_goods_41 : decode cL_goods 41 = .ok (.sipush 9999, 3) := by decide +kernel
theorem dL_goods_44 : decode cL_goods 44 = .ok (.goto 6, 3) := by decide +kernel
theorem dL_goods_47 : decode cL_goods 47 = .ok (.sipush 300, 3) := by decide +kernel
theorem dL_goods_50 : decode cL_goods 50 = .ok (.invokestatic 16, 3) := by decide +kernel
theorem dL_goods_53 : decode cL_goods 53 = .ok (.iadd, 1) := by decide +kernel
theorem dL_goods_54 : decode cL_goods 54 = .ok (.iconst 1, 1) := by decide +kernel
theorem dL_goods_55 : decode cL_goods 55 = .ok (.iload 5, 2) := by decide +kernel
theorem dL_goods_57 : decode cL_goods 57 = .ok (.bipush 14, 2) := by decide +kernel
theorem dL_goods_59 : decode cL_goods 59 = .ok (.ishr, 1) := by decide +kernel
theorem dL_goods_60 : decode cL_goods 60 = .ok (.bipush 20, 2) := by decide +kernel
theorem dL_goods_62 : decode cL_goods 62 = .ok (.invokestatic 16, 3) := by decide +kernel
theorem dL_goods_65 : decode cL_goods 65 = .ok (.iadd, 1) := by decide +kernel
theorem dL_goods_66 : decode cL_goods 66 = .ok (.invokevirtual 20, 3) := by decide +kernel
theorem dL_goods_69 : decode cL_goods 69 = .ok (.iload 4, 2) := by decide +kernel
theorem dL_goods_71 : decode cL_goods 71 = .ok (.if_icmp .ne 7, 3) := by decide +kernel
theorem dL_goods_74 : decode cL_goods 74 = .ok (.iconst 1, 1) := by decide +kernel
theorem dL_goods_75 : decode cL_goods 75 = .ok (.goto 4, 3) := by decide +kernel
theorem dL_goods_78 : decode cL_goods 78 = .ok (.iconst 0, 1) := by decide +kernel
theorem dL_goods_79 : decode cL_goods 79 = .ok (.istore_n 3, 1) := by decide +kernel
theorem dL_goods_80 : decode cL_goods 80 = .ok (.iinc 4 1, 3) := by decide +kernel
theorem dL_goods_83 : decode cL_goods 83 = .ok (.goto (-78), 3) := by decide +kernel
theorem dL_goods_86 : decode cL_goods 86 = .ok (.iconst 0, 1) := by decide +kernel
theorem dL_goods_87 : decode cL_goods 87 = .ok (.istore 4, 2) := by decide +kernel
theorem dL_goods_89 : decode cL_goods 89 = .ok (.iload 4, 2) := by decide +kernel
theorem dL_goods_91 : decode cL_goods 91 = .ok (.bipush 6, 2) := by decide +kernel
theorem dL_goods_93 : decode cL_goods 93 = .ok (.if_icmp .ge 212, 3) := by decide +kernel
theorem dL_goods_96 : decode cL_goods 96 = .ok (.iload_n 3, 1) := by decide +kernel
theorem dL_goods_97 : decode cL_goods 97 = .ok (.ifCond .eq 208, 3) := by decide +kernel
theorem dL_goods_100 : decode cL_goods 100 = .ok (.aload_n 1, 1) := by decide +kernel
theorem dL_goods_101 : decode cL_goods 101 = .ok (.bipush 8, 2) := by decide +kernel
theorem dL_goods_103 : decode cL_goods 103 = .ok (.iload 4, 2) := by decide +kernel
theorem dL_goods_105 : decode cL_goods 105 = .ok (.iadd, 1) := by decide +kernel
theorem dL_goods_106 : decode cL_goods 106 = .ok (.invokestatic 10, 3) := by decide +kernel
theorem dL_goods_109 : decode cL_goods 109 = .ok (.istore 5, 2) := by decide +kernel
theorem dL_goods_111 : decode cL_goods 111 = .ok (.iload 5, 2) := by decide +kernel
theorem dL_goods_113 : decode cL_goods 113 = .ok (.iload_n 2, 1) := by decide +kernel
theorem dL_goods_114 : decode cL_goods 114 = .ok (.invokestatic 16, 3) := by decide +kernel
theorem dL_goods_117 : decode cL_goods 117 = .ok (.istore 6, 2) := by decide +kernel
theorem dL_goods_119 : decode cL_goods 119 = .ok (.iload 5, 2) := by decide +kernel
theorem dL_goods_121 : decode cL_goods 121 = .ok (.iconst 4, 1) := by decide +kernel
theorem dL_goods_122 : decode cL_goods 122 = .ok (.ishr, 1) := by decide +kernel
theorem dL_goods_123 : decode cL_goods 123 = .ok (.iload_n 2, 1) := by decide +kernel
theorem dL_goods_124 : decode cL_goods 124 = .ok (.invokestatic 16, 3) := by decide +kernel
theorem dL_goods_127 : decode cL_goods 127 = .ok (.istore 7, 2) := by decide +kernel
theorem dL_goods_129 : decode cL_goods 129 = .ok (.aload_n 0, 1) := by decide +kernel
theorem dL_goods_130 : decode cL_goods 130 = .ok (.iload 6, 2) := by decide +kernel
theorem dL_goods_132 : decode cL_goods 132 = .ok (.iconst 2, 1) := by decide +kernel
theorem dL_goods_133 : decode cL_goods 133 = .ok (.invokevirtual 25, 3) := by decide +kernel
theorem dL_goods_136 : decode cL_goods 136 = .ok (.istore 8, 2) := by decide +kernel
theorem dL_goods_138 : decode cL_goods 138 = .ok (.iload 5, 2) := by decide +kernel
theorem dL_goods_140 : decode cL_goods 140 = .ok (.bipush 8, 2) := by decide +kernel
theorem dL_goods_142 : decode cL_goods 142 = .ok (.ishr, 1) := by decide +kernel
theorem dL_goods_143 : decode cL_goods 143 = .ok (.iload 8, 2) := by decide +kernel
theorem dL_goods_145 : decode cL_goods 145 = .ok (.iconst 1, 1) := by decide +kernel
theorem dL_goods_146 : decode cL_goods 146 = .ok (.iadd, 1) := by decide +kernel
theorem dL_goods_147 : decode cL_goods 147 = .ok (.invokestatic 16, 3) := by decide +kernel
theorem dL_goods_150 : decode cL_goods 150 = .ok (.istore 9, 2) := by decide +kernel
theorem dL_goods_152 : decode cL_goods 152 = .ok (.iconst 0, 1) := by decide +kernel
theorem dL_goods_153 : decode cL_goods 153 = .ok (.istore 10, 2) := by decide +kernel
theorem dL_goods_155 : decode cL_goods 155 = .ok (.iconst 0, 1) := by decide +kernel
theorem dL_goods_156 : decode cL_goods 156 = .ok (.istore 11, 2) := by decide +kernel
theorem dL_goods_158 : decode cL_goods 158 = .ok (.iload 11, 2) := by decide +kernel
theorem dL_goods_160 : decode cL_goods 160 = .ok (.iload 8, 2) := by decide +kernel
theorem dL_goods_162 : decode cL_goods 162 = .ok (.if_icmp .ge 34, 3) := by decide +kernel
theorem dL_goods_165 : decode cL_goods 165 = .ok (.iload 10, 2) := by decide +kernel
theorem dL_goods_167 : decode cL_goods 167 = .ok (.ifCond .ne 16, 3) := by decide +kernel
theorem dL_goods_170 : decode cL_goods 170 = .ok (.aload_n 0, 1) := by decide +kernel
theorem dL_goods_171 : decode cL_goods 171 = .ok (.iload 6, 2) := by decide +kernel
theorem dL_goods_173 : decode cL_goods 173 = .ok (.iload 11, 2) := by decide +kernel
theorem dL_goods_175 : decode cL_goods 175 = .ok (.invokevirtual 28, 3) := by decide +kernel
theorem dL_goods_178 : decode cL_goods 178 = .ok (.iload 7, 2) := by decide +kernel
theorem dL_goods_180 : decode cL_goods 180 = .ok (.if_icmp .ne 7, 3) := by decide +kernel
theorem dL_goods_183 : decode cL_goods 183 = .ok (.iconst 1, 1) := by decide +kernel
theorem dL_goods_184 : decode cL_goods 184 = .ok (.goto 4, 3) := by decide +kernel
theorem dL_goods_187 : decode cL_goods 187 = .ok (.iconst 0, 1) := by decide +kernel
theorem dL_goods_188 : decode cL_goods 188 = .ok (.istore 10, 2) := by decide +kernel
theorem dL_goods_190 : decode cL_goods 190 = .ok (.iinc 11 1, 3) := by decide +kernel
theorem dL_goods_193 : decode cL_goods 193 = .ok (.goto (-35), 3) := by decide +kernel
theorem dL_goods_196 : decode cL_goods 196 = .ok (.aload_n 0, 1) := by decide +kernel
theorem dL_goods_197 : decode cL_goods 197 = .ok (.iload 6, 2) := by decide +kernel
theorem dL_goods_199 : decode cL_goods 199 = .ok (.iload 7, 2) := by decide +kernel
theorem dL_goods_201 : decode cL_goods 201 = .ok (.iload 9, 2) := by decide +kernel
theorem dL_goods_203 : decode cL_goods 203 = .ok (.invokevirtual 31, 3) := by decide +kernel
theorem dL_goods_206 : decode cL_goods 206 = .ok (.istore 11, 2) := by decide +kernel
theorem dL_goods_208 : decode cL_goods 208 = .ok (.iload 6, 2) := by decide +kernel
theorem dL_goods_210 : decode cL_goods 210 = .ok (.iload 7, 2) := by decide +kernel
theorem dL_goods_212 : decode cL_goods 212 = .ok (.if_icmp .ne 18, 3) := by decide +kernel
theorem dL_goods_215 : decode cL_goods 215 = .ok (.iload 11, 2) := by decide +kernel
theorem dL_goods_217 : decode cL_goods 217 = .ok (.bipush (-2), 2) := by decide +kernel
theorem dL_goods_219 : decode cL_goods 219 = .ok (.if_icmp .ne 7, 3) := by decide +kernel
theorem dL_goods_222 : decode cL_goods 222 = .ok (.iconst 1, 1) := by decide +kernel
theorem dL_goods_223 : decode cL_goods 223 = .ok (.goto 75, 3) := by decide +kernel
theorem dL_goods_226 : decode cL_goods 226 = .ok (.iconst 0, 1) := by decide +kernel
theorem dL_goods_227 : decode cL_goods 227 = .ok (.goto 71, 3) := by decide +kernel
theorem dL_goods_230 : decode cL_goods 230 = .ok (.iload 10, 2) := by decide +kernel
theorem dL_goods_232 : decode cL_goods 232 = .ok (.ifCond .eq 18, 3) := by decide +kernel
theorem dL_goods_235 : decode cL_goods 235 = .ok (.iload 11, 2) := by decide +kernel
theorem dL_goods_237 : decode cL_goods 237 = .ok (.bipush (-4), 2) := by decide +kernel
theorem dL_goods_239 : decode cL_goods 239 = .ok (.if_icmp .ne 7, 3) := by decide +kernel
theorem dL_goods_242 : decode cL_goods 242 = .ok (.iconst 1, 1) := by decide +kernel
theorem dL_goods_243 : decode cL_goods 243 = .ok (.goto 55, 3) := by decide +kernel
theorem dL_goods_246 : decode cL_goods 246 = .ok (.iconst 0, 1) := by decide +kernel
theorem dL_goods_247 : decode cL_goods 247 = .ok (.goto 51, 3) := by decide +kernel
theorem dL_goods_250 : decode cL_goods 250 = .ok (.iload 8, 2) := by decide +kernel
theorem dL_goods_252 : decode cL_goods 252 = .ok (.iconst 4, 1) := by decide +kernel
theorem dL_goods_253 : decode cL_goods 253 = .ok (.if_icmp .ne 18, 3) := by decide +kernel
theorem dL_goods_256 : decode cL_goods 256 = .ok (.iload 11, 2) := by decide +kernel
theorem dL_goods_258 : decode cL_goods 258 = .ok (.bipush (-3), 2) := by decide +kernel
theorem dL_goods_260 : decode cL_goods 260 = .ok (.if_icmp .ne 7, 3) := by decide +kernel
theorem dL_goods_263 : decode cL_goods 263 = .ok (.iconst 1, 1) := by decide +kernel
theorem dL_goods_264 : decode cL_goods 264 = .ok (.goto 34, 3) := by decide +kernel
theorem dL_goods_267 : decode cL_goods 267 = .ok (.iconst 0, 1) := by decide +kernel
theorem dL_goods_268 : decode cL_goods 268 = .ok (.goto 30, 3) := by decide +kernel
theorem dL_goods_271 : decode cL_goods 271 = .ok (.iload 11, 2) := by decide +kernel
theorem dL_goods_273 : decode cL_goods 273 = .ok (.iload 8, 2) := by decide +kernel
theorem dL_goods_275 : decode cL_goods 275 = .ok (.iconst 1, 1) := by decide +kernel
theorem dL_goods_276 : decode cL_goods 276 = .ok (.iadd, 1) := by decide +kernel
theorem dL_goods_277 : decode cL_goods 277 = .ok (.if_icmp .ne 20, 3) := by decide +kernel
theorem dL_goods_280 : decode cL_goods 280 = .ok (.aload_n 0, 1) := by decide +kernel
theorem dL_goods_281 : decode cL_goods 281 = .ok (.iload 6, 2) := by decide +kernel
theorem dL_goods_283 : decode cL_goods 283 = .ok (.iload 9, 2) := by decide +kernel
theorem dL_goods_285 : decode cL_goods 285 = .ok (.invokevirtual 28, 3) := by decide +kernel
theorem dL_goods_288 : decode cL_goods 288 = .ok (.iload 7, 2) := by decide +kernel
theorem dL_goods_290 : decode cL_goods 290 = .ok (.if_icmp .ne 7, 3) := by decide +kernel
theorem dL_goods_293 : decode cL_goods 293 = .ok (.iconst 1, 1) := by decide +kernel
theorem dL_goods_294 : decode cL_goods 294 = .ok (.goto 4, 3) := by decide +kernel
theorem dL_goods_297 : decode cL_goods 297 = .ok (.iconst 0, 1) := by decide +kernel
theorem dL_goods_298 : decode cL_goods 298 = .ok (.istore_n 3, 1) := by decide +kernel
theorem dL_goods_299 : decode cL_goods 299 = .ok (.iinc 4 1, 3) := by decide +kernel
theorem dL_goods_302 : decode cL_goods 302 = .ok (.goto (-213), 3) := by decide +kernel
theorem dL_goods_305 : decode cL_goods 305 = .ok (.iload_n 3, 1) := by decide +kernel
theorem dL_goods_306 : decode cL_goods 306 = .ok (.ireturn, 1) := by decide +kernel
set_option maxRecDepth 20000 in
theorem ggL_stage_X9_batch : GoodIn wsL_stage wsX9_batch := goodIn_r _ [5, 6, 7, 8, 9, 10, 11, 12, 13, 14, 15, 16, 17, 18, 4, 19, 20, 21, 22, 23, 24, 25, 26, 27, 28, 29, 30, 31, 32, 33, 34, 35, 36, 37, 38, 39, 40, 41, 42, 43, 44, 45, 46, 103, 104, 105, 106, 107, 108, 109, 110, 111, 112, 113, 114, 115, 116, 117, 118, 119, 120, 121, 122, 123, 124, 125, 126, 127, 128, 129, 130, 131, 132, 133, 134, 135] (by decide +kernel) (by decide +kernel)
set_option maxRecDepth 20000 in
theorem gL_stage_X9_batch : GoodIn wsL_stage (wsV RL 35 RX9 yX9_batch wsX9_batch) := goodIn_app (goodIn_of _ (by decide +kernel)) ggL_stage_X9_batch
set_option maxRecDepth 20000 in
theorem ggL_stage_X9_stage : GoodIn wsL_stage wsX9_stage := goodIn_r _ [50, 6, 51, 52, 53, 54, 4, 55, 21, 22, 23, 56, 57, 58, 33, 59, 36, 60, 61, 62, 63, 64, 65, 66, 31, 32, 34, 35, 37, 38, 39, 40, 41, 42, 43, 44, 45, 46, 67, 68, 69, 70, 103, 104, 105, 106, 107, 108, 109, 110, 111, 112, 113, 114, 115, 116, 117, 118, 119, 134, 135, 120, 121, 122, 123, 124, 125, 126, 127, 128, 129, 130, 131, 132, 133] (by decide +kernel) (by decide +kernel)
set_option maxRecDepth 20000 in
theorem gL_stage_X9_stage : GoodIn wsL_stage (wsV RL 38 RX9 yX9_stage wsX9_stage) := goodIn_app (goodIn_of _ (by decide +kernel)) ggL_stage_X9_stage
set_option maxRecDepth 20000 in
theorem ggL_stage_X9_good : GoodIn wsL_stage wsX9_good := goodIn_r _ [74, 6, 7, 75, 76, 77, 78, 11, 12, 79, 80, 81, 82, 4, 83, 84, 21, 22, 23, 85, 86, 87, 27, 88, 89, 90, 91, 92, 93, 94, 95, 96, 97, 98, 99, 100, 101, 102, 103, 104, 105, 106, 107, 108, 109, 110, 111, 112, 113, 114, 115, 116, 117, 118, 119, 129, 130, 131, 132, 133, 120, 121, 122, 123, 124, 125, 126, 127, 128, 136, 137, 138, 139, 140, 141, 142, 143, 144, 145, 146, 147, 148, 149] (by decide +kernel) (by decide +kernel)
set_option maxRecDepth 20000 in
theorem gL_stage_X9_good : GoodIn wsL_stage (wsV RL 25 RX9 yX9_good wsX9_good) := goodIn_app (goodIn_of _ (by decide +kernel)) ggL_stage_X9_good
theorem dL_stage_0 : decode cL_stage 0 = .ok (.iconst 0, 1) := by decide +kernel
theorem dL_stage_1 : decode cL_stage 1 = .ok (.istore_n 2, 1) := by decide +kernel
theorem dL_stage_2 : decode cL_stage 2 = .ok (.iconst 1, 1) := by decide +kernel
theorem dL_stage_3 : decode cL_stage 3 = .ok (.istore_n 3, 1) := by decide +kernel
theorem dL_stage_4 : decode cL_stage 4 = .ok (.iload_n 3, 1) := by decide +kernel
theorem dL_stage_5 : decode cL_stage 5 = .ok (.iconst 4, 1) := by decide +kernel
theorem dL_stage_6 : decode cL_stage 6 = .ok (.if_icmp .ge 45, 3) := by decide +kernel
theorem dL_stage_9 : decode cL_stage 9 = .ok (.aload_n 0, 1) := by decide +kernel
theorem dL_stage_10 : decode cL_stage 10 = .ok (.iload_n 1, 1) := by decide +kernel
theorem dL_stage_11 : decode cL_stage 11 = .ok (.iconst 2, 1) := by decide +kernel
theorem dL_stage_12 : decode cL_stage 12 = .ok (.invokevirtual 35, 3) := by decide +kernel
theorem dL_stage_15 : decode cL_stage 15 = .ok (.bipush 100, 2) := by decide +kernel
theorem dL_stage_17 : decode cL_stage 17 = .ok (.imul, 1) := by decide +kernel
theorem dL_stage_18 : decode cL_stage 18 = .ok (.aload_n 0, 1) := by decide +kernel
theorem dL_stage_19 : decode cL_stage 19 = .ok (.iload_n 3, 1) := by decide +kernel
theorem dL_stage_20 : decode cL_stage 20 = .ok (.iconst 0, 1) := by decide +kernel
theorem dL_stage_21 : decode cL_stage 21 = .ok (.invokevirtual 38, 3) := by decide +kernel
theorem dL_stage_24 : decode cL_stage 24 = .ok (.aload_n 0, 1) := by decide +kernel
theorem dL_stage_25 : decode cL_stage 25 = .ok (.aload_n 0, 1) := by decide +kernel
theorem dL_stage_26 : decode cL_stage 26 = .ok (.iload_n 1, 1) := by decide +kernel
theorem dL_stage_27 : decode cL_stage 27 = .ok (.iconst 0, 1) := by decide +kernel
theorem dL_stage_28 : decode cL_stage 28 = .ok (.invokevirtual 35, 3) := by decide +kernel
theorem dL_stage_31 : decode cL_stage 31 = .ok (.iconst 1, 1) := by decide +kernel
theorem dL_stage_32 : decode cL_stage 32 = .ok (.invokevirtual 25, 3) := by decide +kernel
theorem dL_stage_35 : decode cL_stage 35 = .ok (.imul, 1) := by decide +kernel
theorem dL_stage_36 : decode cL_stage 36 = .ok (.if_icmp .gt 7, 3) := by decide +kernel
theorem dL_stage_39 : decode cL_stage 39 = .ok (.iload_n 3, 1) := by decide +kernel
theorem dL_stage_40 : decode cL_stage 40 = .ok (.goto 4, 3) := by decide +kernel
theorem dL_stage_43 : decode cL_stage 43 = .ok (.iload_n 2, 1) := by decide +kernel
theorem dL_stage_44 : decode cL_stage 44 = .ok (.istore_n 2, 1) := by decide +kernel
theorem dL_stage_45 : decode cL_stage 45 = .ok (.iinc 3 1, 3) := by decide +kernel
theorem dL_stage_48 : decode cL_stage 48 = .ok (.goto (-44), 3) := by decide +kernel
theorem dL_stage_51 : decode cL_stage 51 = .ok (.iload_n 2, 1) := by decide +kernel
theorem dL_stage_52 : decode cL_stage 52 = .ok (.ireturn, 1) := by decide +kernel
set_option maxRecDepth 20000 in
theorem ggL_addUp_X9_count : GoodIn wsL_addUp wsX9_count := goodIn_r _ [6, 7, 8, 9, 10, 11, 12, 13, 14, 15, 16, 17, 18, 19, 20, 21, 22, 23, 24, 25, 26, 27, 28, 29, 30, 31, 32, 33, 34, 35, 36, 37, 38, 39, 40, 41, 42, 43, 44, 45, 46, 47, 48, 182, 183, 184, 185, 186, 187, 188, 189, 190, 191, 192, 193, 194, 195, 196, 197, 198, 199, 200, 201, 202, 203, 204, 205, 206, 207, 208, 209, 210, 211, 212, 213, 214, 215, 216, 217, 218, 219, 220, 221, 222, 223, 224, 225, 226, 227, 228, 229] (by decide +kernel) (by decide +kernel)
set_option maxRecDepth 20000 in
theorem gL_addUp_X9_count : GoodIn wsL_addUp (wsV RL 41 RX9 yX9_count wsX9_count) := goodIn_app (goodIn_of _ (by decide +kernel)) ggL_addUp_X9_count
set_option maxRecDepth 20000 in
theorem ggL_addUp_X9_batch : GoodIn wsL_addUp wsX9_batch := goodIn_r _ [52, 7, 8, 53, 54, 55, 15, 16, 17, 18, 56, 57, 58, 59, 5, 60, 13, 61, 62, 63, 64, 65, 66, 29, 67, 36, 68, 69, 70, 71, 72, 73, 74, 75, 76, 77, 78, 79, 80, 81, 82, 83, 84, 182, 183, 184, 185, 186, 187, 188, 189, 190, 191, 192, 193, 194, 195, 196, 197, 198, 204, 205, 206, 207, 208, 209, 210, 211, 212, 199, 200, 201, 202, 203, 230, 231] (by decide +kernel) (by decide +kernel)
set_option maxRecDepth 20000 in
theorem gL_addUp_X9_batch : GoodIn wsL_addUp (wsV RL 35 RX9 yX9_batch wsX9_batch) := goodIn_app (goodIn_of _ (by decide +kernel)) ggL_addUp_X9_batch
set_option maxRecDepth 20000 in
theorem ggL_addUp_X9_good : GoodIn wsL_addUp wsX9_good := goodIn_r _ [88, 7, 8, 11, 89, 90, 91, 15, 16, 9, 92, 93, 94, 5, 95, 12, 61, 62, 63, 96, 97, 98, 29, 99, 31, 100, 101, 102, 103, 104, 105, 106, 107, 41, 108, 43, 109, 48, 182, 183, 184, 185, 186, 187, 188, 189, 190, 191, 192, 193, 194, 195, 196, 197, 198, 199, 200, 201, 202, 203, 204, 205, 206, 207, 208, 209, 210, 211, 212, 213, 214, 215, 216, 217, 218, 219, 220, 221, 222, 223, 224, 225, 226] (by decide +kernel) (by decide +kernel)
set_option maxRecDepth 20000 in
theorem gL_addUp_X9_good : GoodIn wsL_addUp (wsV RL 25 RX9 yX9_good wsX9_good) := goodIn_app (goodIn_of _ (by decide +kernel)) ggL_addUp_X9_good
set_option maxRecDepth 20000 in
theorem ggL_addUp_L_stage : GoodIn wsL_addUp wsL_stage := goodIn_r _ [113, 49, 50, 51, 5, 52, 7, 8, 53, 54, 55, 15, 16, 17, 18, 56, 57, 58, 59, 60, 13, 61, 62, 63, 64, 65, 66, 29, 67, 36, 68, 69, 70, 71, 72, 73, 74, 75, 76, 77, 78, 79, 80, 81, 82, 83, 84, 114, 115, 116, 117, 118, 119, 120, 121, 122, 123, 124, 125, 126, 127, 128, 129, 130, 131, 132, 133, 134, 135, 136, 137, 85, 86, 87, 88, 11, 89, 90, 91, 9, 92, 93, 94, 95, 12, 96, 97, 98, 99, 31, 100, 101, 102, 103, 104, 105, 106, 107, 41, 108, 43, 109, 48, 182, 183, 184, 185, 186, 187, 188, 189, 190, 191, 192, 193, 194, 195, 196, 197, 198, 204, 205, 206, 207, 208, 209, 210, 211, 212, 199, 200, 201, 202, 203, 230, 231, 213, 214, 215, 216, 217, 218, 219, 220, 221, 222, 223, 224, 225, 226] (by decide +kernel) (by decide +kernel)
set_option maxRecDepth 20000 in
theorem gL_addUp_L_stage : GoodIn wsL_addUp (va_wsS RL 45 yL_stage wsL_stage) := goodIn_app (goodIn_of _ (by decide +kernel)) ggL_addUp_L_stage
set_option maxRecDepth 20000 in
theorem ggL_addUp_X9_markdown : GoodIn wsL_addUp wsX9_markdown := goodIn_r _ [141, 7, 118, 142, 120, 121, 5, 122, 61, 62, 63, 143, 144, 145, 146, 182, 183, 184, 185, 186, 187, 188, 189, 190, 191, 192, 193, 194, 195, 196, 197, 198, 230, 231] (by decide +kernel) (by decide +kernel)
set_option maxRecDepth 20000 in
theorem gL_addUp_X9_markdown : GoodIn wsL_addUp (wsV RL 48 RX9 yX9_markdown wsX9_markdown) := goodIn_app (goodIn_of _ (by decide +kernel)) ggL_addUp_X9_markdown
set_option maxRecDepth 20000 in
theorem ggL_addUp_X9_unitPrice : GoodIn wsL_addUp wsX9_unitPrice := goodIn_r _ [150, 7, 57, 58, 59, 5, 60, 8, 13, 61, 62, 63, 143, 144, 145, 146, 151, 152, 153, 71, 154, 76, 155, 74, 78, 73, 156, 157, 133, 69, 70, 72, 75, 77, 79, 80, 81, 82, 83, 84, 182, 183, 184, 185, 186, 187, 188, 189, 190, 191, 192, 193, 194, 195, 196, 197, 198, 204, 205, 206, 207, 208, 209, 210, 211, 212, 199, 200, 201, 202, 203, 230, 231] (by decide +kernel) (by decide +kernel)
set_option maxRecDepth 20000 in
theorem gL_addUp_X9_unitPrice : GoodIn wsL_addUp (wsV RL 53 RX9 yX9_unitPrice wsX9_unitPrice) := goodIn_app (goodIn_of _ (by decide +kernel)) ggL_addUp_X9_unitPrice
set_option maxRecDepth 20000 in
theorem ggL_addUp_X9_orderTold : GoodIn wsL_addUp wsX9_orderTold := goodIn_r _ [161, 7, 9, 162, 19, 20, 163, 164, 165, 166, 21, 167, 168, 169, 170, 5, 171, 14, 61, 62, 63, 182, 183, 184, 185, 186, 187, 188, 189, 190, 191, 192, 193, 194, 195, 196, 197, 198, 213, 214, 215, 216, 217, 218, 219, 220, 221, 222, 223, 224, 225, 226] (by decide +kernel) (by decide +kernel)
set_option maxRecDepth 20000 in
theorem gL_addUp_X9_orderTold : GoodIn wsL_addUp (wsV RL 56 RX9 yX9_orderTold wsX9_orderTold) := goodIn_app (goodIn_of _ (by decide +kernel)) ggL_addUp_X9_orderTold
set_option maxRecDepth 20000 in
theorem ggL_addUp_X9_taken : GoodIn wsL_addUp wsX9_taken := goodIn_r _ [175, 7, 9, 166, 176, 177, 178, 168, 169, 170, 5, 171, 14, 61, 62, 63, 182, 183, 184, 185, 186, 187, 188, 189, 190, 191, 192, 193, 194, 195, 196, 197, 198, 213, 214, 215, 216, 217, 218, 219, 220, 221, 222, 223, 224, 225, 226] (by decide +kernel) (by decide +kernel)
set_option maxRecDepth 20000 in
theorem gL_addUp_X9_taken : GoodIn wsL_addUp (wsV RL 59 RX9 yX9_taken wsX9_taken) := goodIn_app (goodIn_of _ (by decide +kernel)) ggL_addUp_X9_taken
set_option maxRecDepth 20000 in
theorem ggL_addUp_X9_stage : GoodIn wsL_addUp wsX9_stage := goodIn_r _ [117, 7, 118, 119, 120, 121, 5, 122, 61, 62, 63, 123, 124, 125, 71, 126, 74, 127, 128, 129, 130, 131, 132, 133, 69, 70, 72, 73, 75, 76, 77, 78, 79, 80, 81, 82, 83, 84, 134, 135, 136, 137, 182, 183, 184, 185, 186, 187, 188, 189, 190, 191, 192, 193, 194, 195, 196, 197, 198, 230, 231, 204, 205, 206, 207, 208, 209, 210, 211, 212, 199, 200, 201, 202, 203] (by decide +kernel) (by decide +kernel)
set_option maxRecDepth 20000 in
theorem gL_addUp_X9_stage : GoodIn wsL_addUp (wsV RL 38 RX9 yX9_stage wsX9_stage) := goodIn_app (goodIn_of _ (by decide +kernel)) ggL_addUp_X9_stage
set_option maxRecDepth 20000 in
theorem ggL_addUp_L_byGoods : GoodIn wsL_addUp wsL_byGoods := goodIn_r _ [181, 85, 86, 87, 5, 88, 7, 8, 11, 89, 90, 91, 15, 16, 9, 92, 93, 94, 95, 12, 61, 62, 63, 96, 97, 98, 29, 99, 31, 100, 101, 102, 103, 104, 105, 106, 107, 41, 108, 43, 109, 48, 182, 183, 184, 185, 186, 187, 188, 189, 190, 191, 192, 193, 194, 195, 196, 197, 198, 199, 200, 201, 202, 203, 204, 205, 206, 207, 208, 209, 210, 211, 212, 213, 214, 215, 216, 217, 218, 219, 220, 221, 222, 223, 224, 225, 226] (by decide +kernel) (by decide +kernel)
set_option maxRecDepth 20000 in
theorem gL_addUp_L_byGoods : GoodIn wsL_addUp (va_wsS RL 62 yL_byGoods wsL_byGoods) := goodIn_app (goodIn_of _ (by decide +kernel)) ggL_addUp_L_byGoods
theorem dL_addUp_0 : decode cL_addUp 0 = .ok (.iconst 0, 1) := by decide +kernel
theorem dL_addUp_1 : decode cL_addUp 1 = .ok (.istore_n 2, 1) := by decide +kernel
theorem dL_addUp_2 : decode cL_addUp 2 = .ok (.iconst 0, 1) := by decide +kernel
theorem dL_addUp_3 : decode cL_addUp 3 = .ok (.istore_n 3, 1) := by decide +kernel
theorem dL_addUp_4 : decode cL_addUp 4 = .ok (.iconst 0, 1) := by decide +kernel
theorem dL_addUp_5 : decode cL_addUp 5 = .ok (.istore 4, 2) := by decide +kernel
theorem dL_addUp_7 : decode cL_addUp 7 = .ok (.iconst 0, 1) := by decide +kernel
theorem dL_addUp_8 : decode cL_addUp 8 = .ok (.istore 5, 2) := by decide +kernel
theorem dL_addUp_10 : decode cL_addUp 10 = .ok (.iconst 0, 1) := by decide +kernel
theorem dL_addUp_11 : decode cL_addUp 11 = .ok (.istore 6, 2) := by decide +kernel
theorem dL_addUp_13 : decode cL_addUp 13 = .ok (.iload 6, 2) := by decide +kernel
theorem dL_addUp_15 : decode cL_addUp 15 = .ok (.aload_n 0, 1) := by decide +kernel
theorem dL_addUp_16 : decode cL_addUp 16 = .ok (.iconst 2, 1) := by decide +kernel
theorem dL_addUp_17 : decode cL_addUp 17 = .ok (.invokevirtual 41, 3) := by decide +kernel
theorem dL_addUp_20 : decode cL_addUp 20 = .ok (.if_icmp .ge 226, 3) := by decide +kernel
theorem dL_addUp_23 : decode cL_addUp 23 = .ok (.aload_n 0, 1) := by decide +kernel
theorem dL_addUp_24 : decode cL_addUp 24 = .ok (.iload 6, 2) := by decide +kernel
theorem dL_addUp_26 : decode cL_addUp 26 = .ok (.bipush 7, 2) := by decide +kernel
theorem dL_addUp_28 : decode cL_addUp 28 = .ok (.invokevirtual 35, 3) := by decide +kernel
theorem dL_addUp_31 : decode cL_addUp 31 = .ok (.aload_n 0, 1) := by decide +kernel
theorem dL_addUp_32 : decode cL_addUp 32 = .ok (.iload 6, 2) := by decide +kernel
theorem dL_addUp_34 : decode cL_addUp 34 = .ok (.bipush 8, 2) := by decide +kernel
theorem dL_addUp_36 : decode cL_addUp 36 = .ok (.invokevirtual 35, 3) := by decide +kernel
theorem dL_addUp_39 : decode cL_addUp 39 = .ok (.iadd, 1) := by decide +kernel
theorem dL_addUp_40 : decode cL_addUp 40 = .ok (.aload_n 0, 1) := by decide +kernel
theorem dL_addUp_41 : decode cL_addUp 41 = .ok (.iload 6, 2) := by decide +kernel
theorem dL_addUp_43 : decode cL_addUp 43 = .ok (.bipush 9, 2) := by decide +kernel
theorem dL_addUp_45 : decode cL_addUp 45 = .ok (.invokevirtual 35, 3) := by decide +kernel
theorem dL_addUp_48 : decode cL_addUp 48 = .ok (.iadd, 1) := by decide +kernel
theorem dL_addUp_49 : decode cL_addUp 49 = .ok (.istore 7, 2) := by decide +kernel
theorem dL_addUp_51 : decode cL_addUp 51 = .ok (.aload_n 0, 1) := by decide +kernel
theorem dL_addUp_52 : decode cL_addUp 52 = .ok (.aload_n 0, 1) := by decide +kernel
theorem dL_addUp_53 : decode cL_addUp 53 = .ok (.iload 6, 2) := by decide +kernel
theorem dL_addUp_55 : decode cL_addUp 55 = .ok (.iconst 0, 1) := by decide +kernel
theorem dL_addUp_56 : decode cL_addUp 56 = .ok (.invokevirtual 35, 3) := by decide +kernel
theorem dL_addUp_59 : decode cL_addUp 59 = .ok (.iconst 0, 1) := by decide +kernel
theorem dL_addUp_60 : decode cL_addUp 60 = .ok (.invokevirtual 25, 3) := by decide +kernel
theorem dL_addUp_63 : decode cL_addUp 63 = .ok (.i2f, 1) := by decide +kernel
theorem dL_addUp_64 : decode cL_addUp 64 = .ok (.fconst 1, 1) := by decide +kernel
theorem dL_addUp_65 : decode cL_addUp 65 = .ok (.aload_n 0, 1) := by decide +kernel
theorem dL_addUp_66 : decode cL_addUp 66 = .ok (.aload_n 0, 1) := by decide +kernel
theorem dL_addUp_67 : decode cL_addUp 67 = .ok (.iload 6, 2) := by decide +kernel
theorem dL_addUp_69 : decode cL_addUp 69 = .ok (.invokestatic 45, 3) := by decide +kernel
theorem dL_addUp_72 : decode cL_addUp 72 = .ok (.invokevirtual 48, 3) := by decide +kernel
theorem dL_addUp_75 : decode cL_addUp 75 = .ok (.ldc 52, 2) := by decide +kernel
theorem dL_addUp_77 : decode cL_addUp 77 = .ok (.fdiv, 1) := by decide +kernel
theorem dL_addUp_78 : decode cL_addUp 78 = .ok (.fsub, 1) := by decide +kernel
theorem dL_addUp_79 : decode cL_addUp 79 = .ok (.fmul, 1) := by decide +kernel
theorem dL_addUp_80 : decode cL_addUp 80 = .ok (.fstore 8, 2) := by decide +kernel
theorem dL_addUp_82 : decode cL_addUp 82 = .ok (.aload_n 0, 1) := by decide +kernel
theorem dL_addUp_83 : decode cL_addUp 83 = .ok (.iload 6, 2) := by decide +kernel
theorem dL_addUp_85 : decode cL_addUp 85 = .ok (.iconst 1, 1) := by decide +kernel
theorem dL_addUp_86 : decode cL_addUp 86 = .ok (.invokevirtual 35, 3) := by decide +kernel
theorem dL_addUp_89 : decode cL_addUp 89 = .ok (.aload_n 0, 1) := by decide +kernel
theorem dL_addUp_90 : decode cL_addUp 90 = .ok (.iload 6, 2) := by decide +kernel
theorem dL_addUp_92 : decode cL_addUp 92 = .ok (.iconst 3, 1) := by decide +kernel
theorem dL_addUp_93 : decode cL_addUp 93 = .ok (.invokevirtual 35, 3) := by decide +kernel
theorem dL_addUp_96 : decode cL_addUp 96 = .ok (.aload_n 0, 1) := by decide +kernel
theorem dL_addUp_97 : decode cL_addUp 97 = .ok (.iload 6, 2) := by decide +kernel
theorem dL_addUp_99 : decode cL_addUp 99 = .ok (.iconst 4, 1) := by decide +kernel
theorem dL_addUp_100 : decode cL_addUp 100 = .ok (.invokevirtual 35, 3) := by decide +kernel
theorem dL_addUp_103 : decode cL_addUp 103 = .ok (.iadd, 1) := by decide +kernel
theorem dL_addUp_104 : decode cL_addUp 104 = .ok (.aload_n 0, 1) := by decide +kernel
theorem dL_addUp_105 : decode cL_addUp 105 = .ok (.iload 6, 2) := by decide +kernel
theorem dL_addUp_107 : decode cL_addUp 107 = .ok (.iconst 5, 1) := by decide +kernel
theorem dL_addUp_108 : decode cL_addUp 108 = .ok (.invokevirtual 35, 3) := by decide +kernel
theorem dL_addUp_111 : decode cL_addUp 111 = .ok (.iadd, 1) := by decide +kernel
theorem dL_addUp_112 : decode cL_addUp 112 = .ok (.aload_n 0, 1) := by decide +kernel
theorem dL_addUp_113 : decode cL_addUp 113 = .ok (.iload 6, 2) := by decide +kernel
theorem dL_addUp_115 : decode cL_addUp 115 = .ok (.bipush 6, 2) := by decide +kernel
theorem dL_addUp_117 : decode cL_addUp 117 = .ok (.invokevirtual 35, 3) := by decide +kernel
theorem dL_addUp_120 : decode cL_addUp 120 = .ok (.iadd, 1) := by decide +kernel
theorem dL_addUp_121 : decode cL_addUp 121 = .ok (.if_icmp .ne 55, 3) := by decide +kernel
theorem dL_addUp_124 : decode cL_addUp 124 = .ok (.iload 7, 2) := by decide +kernel
theorem dL_addUp_126 : decode cL_addUp 126 = .ok (.aload_n 0, 1) := by decide +kernel
theorem dL_addUp_127 : decode cL_addUp 127 = .ok (.iload 6, 2) := by decide +kernel
theorem dL_addUp_129 : decode cL_addUp 129 = .ok (.bipush 6, 2) := by decide +kernel
theorem dL_addUp_131 : decode cL_addUp 131 = .ok (.invokevirtual 35, 3) := by decide +kernel
theorem dL_addUp_134 : decode cL_addUp 134 = .ok (.if_icmp .ne 42, 3) := by decide +kernel
theorem dL_addUp_137 : decode cL_addUp 137 = .ok (.aload_n 0, 1) := by decide +kernel
theorem dL_addUp_138 : decode cL_addUp 138 = .ok (.iload 6, 2) := by decide +kernel
theorem dL_addUp_140 : decode cL_addUp 140 = .ok (.iconst 3, 1) := by decide +kernel
theorem dL_addUp_141 : decode cL_addUp 141 = .ok (.invokevirtual 35, 3) := by decide +kernel
theorem dL_addUp_144 : decode cL_addUp 144 = .ok (.ifCond .lt 32, 3) := by decide +kernel
theorem dL_addUp_147 : decode cL_addUp 147 = .ok (.aload_n 0, 1) := by decide +kernel
theorem dL_addUp_148 : decode cL_addUp 148 = .ok (.iload 6, 2) := by decide +kernel
theorem dL_addUp_150 : decode cL_addUp 150 = .ok (.bipush 10, 2) := by decide +kernel
theorem dL_addUp_152 : decode cL_addUp 152 = .ok (.invokevirtual 35, 3) := by decide +kernel
theorem dL_addUp_155 : decode cL_addUp 155 = .ok (.aload_n 0, 1) := by decide +kernel
theorem dL_addUp_156 : decode cL_addUp 156 = .ok (.iload 6, 2) := by decide +kernel
theorem dL_addUp_158 : decode cL_addUp 158 = .ok (.invokestatic 45, 3) := by decide +kernel
theorem dL_addUp_161 : decode cL_addUp 161 = .ok (.if_icmp .ne 15, 3) := by decide +kernel
theorem dL_addUp_164 : decode cL_addUp 164 = .ok (.aload_n 0, 1) := by decide +kernel
theorem dL_addUp_165 : decode cL_addUp 165 = .ok (.iload 6, 2) := by decide +kernel
theorem dL_addUp_167 : decode cL_addUp 167 = .ok (.invokevirtual 53, 3) := by decide +kernel
theorem dL_addUp_170 : decode cL_addUp 170 = .ok (.fload 8, 2) := by decide +kernel
theorem dL_addUp_172 : decode cL_addUp 172 = .ok (.fcmp .l, 1) := by decide +kernel
theorem dL_addUp_173 : decode cL_addUp 173 = .ok (.ifCond .eq 5, 3) := by decide +kernel
theorem dL_addUp_176 : decode cL_addUp 176 = .ok (.iconst 0, 1) := by decide +kernel
theorem dL_addUp_177 : decode cL_addUp 177 = .ok (.ireturn, 1) := by decide +kernel
theorem dL_addUp_178 : decode cL_addUp 178 = .ok (.aload_n 0, 1) := by decide +kernel
theorem dL_addUp_179 : decode cL_addUp 179 = .ok (.iload 6, 2) := by decide +kernel
theorem dL_addUp_181 : decode cL_addUp 181 = .ok (.iconst 3, 1) := by decide +kernel
theorem dL_addUp_182 : decode cL_addUp 182 = .ok (.invokevirtual 35, 3) := by decide +kernel
theorem dL_addUp_185 : decode cL_addUp 185 = .ok (.ifCond .le 16, 3) := by decide +kernel
theorem dL_addUp_188 : decode cL_addUp 188 = .ok (.aload_n 0, 1) := by decide +kernel
theorem dL_addUp_189 : decode cL_addUp 189 = .ok (.iload 6, 2) := by decide +kernel
theorem dL_addUp_191 : decode cL_addUp 191 = .ok (.iconst 2, 1) := by decide +kernel
theorem dL_addUp_192 : decode cL_addUp 192 = .ok (.invokevirtual 35, 3) := by decide +kernel
theorem dL_addUp_195 : decode cL_addUp 195 = .ok (.iconst 1, 1) := by decide +kernel
theorem dL_addUp_196 : decode cL_addUp 196 = .ok (.if_icmp .ge 5, 3) := by decide +kernel
theorem dL_addUp_199 : decode cL_addUp 199 = .ok (.iconst 0, 1) := by decide +kernel
theorem dL_addUp_200 : decode cL_addUp 200 = .ok (.ireturn, 1) := by decide +kernel
theorem dL_addUp_201 : decode cL_addUp 201 = .ok (.iload_n 2, 1) := by decide +kernel
theorem dL_addUp_202 : decode cL_addUp 202 = .ok (.aload_n 0, 1) := by decide +kernel
theorem dL_addUp_203 : decode cL_addUp 203 = .ok (.iload 6, 2) := by decide +kernel
theorem dL_addUp_205 : decode cL_addUp 205 = .ok (.iconst 3, 1) := by decide +kernel
theorem dL_addUp_206 : decode cL_addUp 206 = .ok (.invokevirtual 35, 3) := by decide +kernel
theorem dL_addUp_209 : decode cL_addUp 209 = .ok (.iadd, 1) := by decide +kernel
theorem dL_addUp_210 : decode cL_addUp 210 = .ok (.istore_n 2, 1) := by decide +kernel
theorem dL_addUp_211 : decode cL_addUp 211 = .ok (.iload_n 3, 1) := by decide +kernel
theorem dL_addUp_212 : decode cL_addUp 212 = .ok (.aload_n 0, 1) := by decide +kernel
theorem dL_addUp_213 : decode cL_addUp 213 = .ok (.iload 6, 2) := by decide +kernel
theorem dL_addUp_215 : decode cL_addUp 215 = .ok (.iconst 4, 1) := by decide +kernel
theorem dL_addUp_216 : decode cL_addUp 216 = .ok (.invokevirtual 35, 3) := by decide +kernel
theorem dL_addUp_219 : decode cL_addUp 219 = .ok (.iadd, 1) := by decide +kernel
theorem dL_addUp_220 : decode cL_addUp 220 = .ok (.istore_n 3, 1) := by decide +kernel
theorem dL_addUp_221 : decode cL_addUp 221 = .ok (.iload 4, 2) := by decide +kernel
theorem dL_addUp_223 : decode cL_addUp 223 = .ok (.aload_n 0, 1) := by decide +kernel
theorem dL_addUp_224 : decode cL_addUp 224 = .ok (.iload 6, 2) := by decide +kernel
theorem dL_addUp_226 : decode cL_addUp 226 = .ok (.iconst 5, 1) := by decide +kernel
theorem dL_addUp_227 : decode cL_addUp 227 = .ok (.invokevirtual 35, 3) := by decide +kernel
theorem dL_addUp_230 : decode cL_addUp 230 = .ok (.iadd, 1) := by decide +kernel
theorem dL_addUp_231 : decode cL_addUp 231 = .ok (.istore 4, 2) := by decide +kernel
theorem dL_addUp_233 : decode cL_addUp 233 = .ok (.iload 5, 2) := by decide +kernel
theorem dL_addUp_235 : decode cL_addUp 235 = .ok (.iload 7, 2) := by decide +kernel
theorem dL_addUp_237 : decode cL_addUp 237 = .ok (.iadd, 1) := by decide +kernel
theorem dL_addUp_238 : decode cL_addUp 238 = .ok (.istore 5, 2) := by decide +kernel
theorem dL_addUp_240 : decode cL_addUp 240 = .ok (.iinc 6 1, 3) := by decide +kernel
theorem dL_addUp_243 : decode cL_addUp 243 = .ok (.goto (-230), 3) := by decide +kernel
theorem dL_addUp_246 : decode cL_addUp 246 = .ok (.iconst 0, 1) := by decide +kernel
theorem dL_addUp_247 : decode cL_addUp 247 = .ok (.istore 6, 2) := by decide +kernel
theorem dL_addUp_249 : decode cL_addUp 249 = .ok (.iconst 0, 1) := by decide +kernel
theorem dL_addUp_250 : decode cL_addUp 250 = .ok (.istore 7, 2) := by decide +kernel
theorem dL_addUp_252 : decode cL_addUp 252 = .ok (.iconst 0, 1) := by decide +kernel
theorem dL_addUp_253 : decode cL_addUp 253 = .ok (.istore 8, 2) := by decide +kernel
theorem dL_addUp_255 : decode cL_addUp 255 = .ok (.iconst 0, 1) := by decide +kernel
theorem dL_addUp_256 : decode cL_addUp 256 = .ok (.istore 9, 2) := by decide +kernel
theorem dL_addUp_258 : decode cL_addUp 258 = .ok (.iload 9, 2) := by decide +kernel
theorem dL_addUp_260 : decode cL_addUp 260 = .ok (.aload_n 0, 1) := by decide +kernel
theorem dL_addUp_261 : decode cL_addUp 261 = .ok (.iconst 3, 1) := by decide +kernel
theorem dL_addUp_262 : decode cL_addUp 262 = .ok (.invokevirtual 41, 3) := by decide +kernel
theorem dL_addUp_265 : decode cL_addUp 265 = .ok (.if_icmp .ge 126, 3) := by decide +kernel
theorem dL_addUp_268 : decode cL_addUp 268 = .ok (.iconst 0, 1) := by decide +kernel
theorem dL_addUp_269 : decode cL_addUp 269 = .ok (.istore 10, 2) := by decide +kernel
theorem dL_addUp_271 : decode cL_addUp 271 = .ok (.iconst 0, 1) := by decide +kernel
theorem dL_addUp_272 : decode cL_addUp 272 = .ok (.istore 11, 2) := by decide +kernel
theorem dL_addUp_274 : decode cL_addUp 274 = .ok (.iload 11, 2) := by decide +kernel
theorem dL_addUp_276 : decode cL_addUp 276 = .ok (.aload_n 0, 1) := by decide +kernel
theorem dL_addUp_277 : decode cL_addUp 277 = .ok (.iload 9, 2) := by decide +kernel
theorem dL_addUp_279 : decode cL_addUp 279 = .ok (.bipush 6, 2) := by decide +kernel
theorem dL_addUp_281 : decode cL_addUp 281 = .ok (.invokevirtual 56, 3) := by decide +kernel
theorem dL_addUp_284 : decode cL_addUp 284 = .ok (.if_icmp .ge 23, 3) := by decide +kernel
theorem dL_addUp_287 : decode cL_addUp 287 = .ok (.iload 10, 2) := by decide +kernel
theorem dL_addUp_289 : decode cL_addUp 289 = .ok (.aload_n 0, 1) := by decide +kernel
theorem dL_addUp_290 : decode cL_addUp 290 = .ok (.iload 9, 2) := by decide +kernel
theorem dL_addUp_292 : decode cL_addUp 292 = .ok (.iload 11, 2) := by decide +kernel
theorem dL_addUp_294 : decode cL_addUp 294 = .ok (.iconst 1, 1) := by decide +kernel
theorem dL_addUp_295 : decode cL_addUp 295 = .ok (.invokevirtual 59, 3) := by decide +kernel
theorem dL_addUp_298 : decode cL_addUp 298 = .ok (.iadd, 1) := by decide +kernel
theorem dL_addUp_299 : decode cL_addUp 299 = .ok (.istore 10, 2) := by decide +kernel
theorem dL_addUp_301 : decode cL_addUp 301 = .ok (.iinc 11 1, 3) := by decide +kernel
theorem dL_addUp_304 : decode cL_addUp 304 = .ok (.goto (-30), 3) := by decide +kernel
theorem dL_addUp_307 : decode cL_addUp 307 = .ok (.iload 10, 2) := by decide +kernel
theorem dL_addUp_309 : decode cL_addUp 309 = .ok (.aload_n 0, 1) := by decide +kernel
theorem dL_addUp_310 : decode cL_addUp 310 = .ok (.iload 9, 2) := by decide +kernel
theorem dL_addUp_312 : decode cL_addUp 312 = .ok (.iconst 2, 1) := by decide +kernel
theorem dL_addUp_313 : decode cL_addUp 313 = .ok (.invokevirtual 56, 3) := by decide +kernel
theorem dL_addUp_316 : decode cL_addUp 316 = .ok (.if_icmp .ne 47, 3) := by decide +kernel
theorem dL_addUp_319 : decode cL_addUp 319 = .ok (.iload 10, 2) := by decide +kernel
theorem dL_addUp_321 : decode cL_addUp 321 = .ok (.aload_n 0, 1) := by decide +kernel
theorem dL_addUp_322 : decode cL_addUp 322 = .ok (.iload 9, 2) := by decide +kernel
theorem dL_addUp_324 : decode cL_addUp 324 = .ok (.iconst 1, 1) := by decide +kernel
theorem dL_addUp_325 : decode cL_addUp 325 = .ok (.invokevirtual 56, 3) := by decide +kernel
theorem dL_addUp_328 : decode cL_addUp 328 = .ok (.if_icmp .gt 35, 3) := by decide +kernel
theorem dL_addUp_331 : decode cL_addUp 331 = .ok (.aload_n 0, 1) := by decide +kernel
theorem dL_addUp_332 : decode cL_addUp 332 = .ok (.iload 9, 2) := by decide +kernel
theorem dL_addUp_334 : decode cL_addUp 334 = .ok (.iconst 3, 1) := by decide +kernel
theorem dL_addUp_335 : decode cL_addUp 335 = .ok (.invokevirtual 56, 3) := by decide +kernel
theorem dL_addUp_338 : decode cL_addUp 338 = .ok (.iload 10, 2) := by decide +kernel
theorem dL_addUp_340 : decode cL_addUp 340 = .ok (.if_icmp .gt 23, 3) := by decide +kernel
theorem dL_addUp_343 : decode cL_addUp 343 = .ok (.aload_n 0, 1) := by decide +kernel
theorem dL_addUp_344 : decode cL_addUp 344 = .ok (.iload 9, 2) := by decide +kernel
theorem dL_addUp_346 : decode cL_addUp 346 = .ok (.aload_n 0, 1) := by decide +kernel
theorem dL_addUp_347 : decode cL_addUp 347 = .ok (.iload 9, 2) := by decide +kernel
theorem dL_addUp_349 : decode cL_addUp 349 = .ok (.bipush 6, 2) := by decide +kernel
theorem dL_addUp_351 : decode cL_addUp 351 = .ok (.invokevirtual 56, 3) := by decide +kernel
theorem dL_addUp_354 : decode cL_addUp 354 = .ok (.iconst 0, 1) := by decide +kernel
theorem dL_addUp_355 : decode cL_addUp 355 = .ok (.invokevirtual 59, 3) := by decide +kernel
theorem dL_addUp_358 : decode cL_addUp 358 = .ok (.bipush (-5), 2) := by decide +kernel
theorem dL_addUp_360 : decode cL_addUp 360 = .ok (.if_icmp .eq 5, 3) := by decide +kernel
theorem dL_addUp_363 : decode cL_addUp 363 = .ok (.iconst 0, 1) := by decide +kernel
theorem dL_addUp_364 : decode cL_addUp 364 = .ok (.ireturn, 1) := by decide +kernel
theorem dL_addUp_365 : decode cL_addUp 365 = .ok (.iload 6, 2) := by decide +kernel
theorem dL_addUp_367 : decode cL_addUp 367 = .ok (.iload 10, 2) := by decide +kernel
theorem dL_addUp_369 : decode cL_addUp 369 = .ok (.iadd, 1) := by decide +kernel
theorem dL_addUp_370 : decode cL_addUp 370 = .ok (.istore 6, 2) := by decide +kernel
theorem dL_addUp_372 : decode cL_addUp 372 = .ok (.iload 7, 2) := by decide +kernel
theorem dL_addUp_374 : decode cL_addUp 374 = .ok (.aload_n 0, 1) := by decide +kernel
theorem dL_addUp_375 : decode cL_addUp 375 = .ok (.iload 9, 2) := by decide +kernel
theorem dL_addUp_377 : decode cL_addUp 377 = .ok (.bipush 7, 2) := by decide +kernel
theorem dL_addUp_379 : decode cL_addUp 379 = .ok (.invokevirtual 56, 3) := by decide +kernel
theorem dL_addUp_382 : decode cL_addUp 382 = .ok (.iadd, 1) := by decide +kernel
theorem dL_addUp_383 : decode cL_addUp 383 = .ok (.istore 7, 2) := by decide +kernel
theorem dL_addUp_385 : decode cL_addUp 385 = .ok (.iinc 9 1, 3) := by decide +kernel
theorem dL_addUp_388 : decode cL_addUp 388 = .ok (.goto (-130), 3) := by decide +kernel
theorem dL_addUp_391 : decode cL_addUp 391 = .ok (.iconst 0, 1) := by decide +kernel
theorem dL_addUp_392 : decode cL_addUp 392 = .ok (.istore 9, 2) := by decide +kernel
theorem dL_addUp_394 : decode cL_addUp 394 = .ok (.iload 9, 2) := by decide +kernel
theorem dL_addUp_396 : decode cL_addUp 396 = .ok (.aload_n 0, 1) := by decide +kernel
theorem dL_addUp_397 : decode cL_addUp 397 = .ok (.iconst 2, 1) := by decide +kernel
theorem dL_addUp_398 : decode cL_addUp 398 = .ok (.invokevirtual 41, 3) := by decide +kernel
theorem dL_addUp_401 : decode cL_addUp 401 = .ok (.if_icmp .ge 22, 3) := by decide +kernel
theorem dL_addUp_404 : decode cL_addUp 404 = .ok (.iload 8, 2) := by decide +kernel
theorem dL_addUp_406 : decode cL_addUp 406 = .ok (.aload_n 0, 1) := by decide +kernel
theorem dL_addUp_407 : decode cL_addUp 407 = .ok (.iload 9, 2) := by decide +kernel
theorem dL_addUp_409 : decode cL_addUp 409 = .ok (.bipush 11, 2) := by decide +kernel
theorem dL_addUp_411 : decode cL_addUp 411 = .ok (.invokevirtual 35, 3) := by decide +kernel
theorem dL_addUp_414 : decode cL_addUp 414 = .ok (.iadd, 1) := by decide +kernel
theorem dL_addUp_415 : decode cL_addUp 415 = .ok (.istore 8, 2) := by decide +kernel
theorem dL_addUp_417 : decode cL_addUp 417 = .ok (.iinc 9 1, 3) := by decide +kernel
theorem dL_addUp_420 : decode cL_addUp 420 = .ok (.goto (-26), 3) := by decide +kernel
theorem dL_addUp_423 : decode cL_addUp 423 = .ok (.iconst 0, 1) := by decide +kernel
theorem dL_addUp_424 : decode cL_addUp 424 = .ok (.istore 9, 2) := by decide +kernel
theorem dL_addUp_426 : decode cL_addUp 426 = .ok (.iconst 0, 1) := by decide +kernel
theorem dL_addUp_427 : decode cL_addUp 427 = .ok (.istore 10, 2) := by decide +kernel
theorem dL_addUp_429 : decode cL_addUp 429 = .ok (.iload 10, 2) := by decide +kernel
theorem dL_addUp_431 : decode cL_addUp 431 = .ok (.iconst 4, 1) := by decide +kernel
theorem dL_addUp_432 : decode cL_addUp 432 = .ok (.if_icmp .ge 21, 3) := by decide +kernel
theorem dL_addUp_435 : decode cL_addUp 435 = .ok (.iload 9, 2) := by decide +kernel
theorem dL_addUp_437 : decode cL_addUp 437 = .ok (.aload_n 0, 1) := by decide +kernel
theorem dL_addUp_438 : decode cL_addUp 438 = .ok (.iload 10, 2) := by decide +kernel
theorem dL_addUp_440 : decode cL_addUp 440 = .ok (.iconst 2, 1) := by decide +kernel
theorem dL_addUp_441 : decode cL_addUp 441 = .ok (.invokevirtual 38, 3) := by decide +kernel
theorem dL_addUp_444 : decode cL_addUp 444 = .ok (.iadd, 1) := by decide +kernel
theorem dL_addUp_445 : decode cL_addUp 445 = .ok (.istore 9, 2) := by decide +kernel
theorem dL_addUp_447 : decode cL_addUp 447 = .ok (.iinc 10 1, 3) := by decide +kernel
theorem dL_addUp_450 : decode cL_addUp 450 = .ok (.goto (-21), 3) := by decide +kernel
theorem dL_addUp_453 : decode cL_addUp 453 = .ok (.aload_n 0, 1) := by decide +kernel
theorem dL_addUp_454 : decode cL_addUp 454 = .ok (.iconst 4, 1) := by decide +kernel
theorem dL_addUp_455 : decode cL_addUp 455 = .ok (.invokevirtual 41, 3) := by decide +kernel
theorem dL_addUp_458 : decode cL_addUp 458 = .ok (.iload_n 2, 1) := by decide +kernel
theorem dL_addUp_459 : decode cL_addUp 459 = .ok (.if_icmp .ne 78, 3) := by decide +kernel
theorem dL_addUp_462 : decode cL_addUp 462 = .ok (.aload_n 0, 1) := by decide +kernel
theorem dL_addUp_463 : decode cL_addUp 463 = .ok (.iconst 5, 1) := by decide +kernel
theorem dL_addUp_464 : decode cL_addUp 464 = .ok (.invokevirtual 41, 3) := by decide +kernel
theorem dL_addUp_467 : decode cL_addUp 467 = .ok (.iload_n 3, 1) := by decide +kernel
theorem dL_addUp_468 : decode cL_addUp 468 = .ok (.if_icmp .ne 69, 3) := by decide +kernel
theorem dL_addUp_471 : decode cL_addUp 471 = .ok (.aload_n 0, 1) := by decide +kernel
theorem dL_addUp_472 : decode cL_addUp 472 = .ok (.bipush 6, 2) := by decide +kernel
theorem dL_addUp_474 : decode cL_addUp 474 = .ok (.invokevirtual 41, 3) := by decide +kernel
theorem dL_addUp_477 : decode cL_addUp 477 = .ok (.iload 4, 2) := by decide +kernel
theorem dL_addUp_479 : decode cL_addUp 479 = .ok (.if_icmp .ne 58, 3) := by decide +kernel
theorem dL_addUp_482 : decode cL_addUp 482 = .ok (.aload_n 0, 1) := by decide +kernel
theorem dL_addUp_483 : decode cL_addUp 483 = .ok (.bipush 7, 2) := by decide +kernel
theorem dL_addUp_485 : decode cL_addUp 485 = .ok (.invokevirtual 41, 3) := by decide +kernel
theorem dL_addUp_488 : decode cL_addUp 488 = .ok (.iload 5, 2) := by decide +kernel
theorem dL_addUp_490 : decode cL_addUp 490 = .ok (.if_icmp .ne 47, 3) := by decide +kernel
theorem dL_addUp_493 : decode cL_addUp 493 = .ok (.iload_n 3, 1) := by decide +kernel
theorem dL_addUp_494 : decode cL_addUp 494 = .ok (.iload 6, 2) := by decide +kernel
theorem dL_addUp_496 : decode cL_addUp 496 = .ok (.if_icmp .ne 41, 3) := by decide +kernel
theorem dL_addUp_499 : decode cL_addUp 499 = .ok (.aload_n 0, 1) := by decide +kernel
theorem dL_addUp_500 : decode cL_addUp 500 = .ok (.bipush 13, 2) := by decide +kernel
theorem dL_addUp_502 : decode cL_addUp 502 = .ok (.invokevirtual 41, 3) := by decide +kernel
theorem dL_addUp_505 : decode cL_addUp 505 = .ok (.iload 7, 2) := by decide +kernel
theorem dL_addUp_507 : decode cL_addUp 507 = .ok (.if_icmp .ne 30, 3) := by decide +kernel
theorem dL_addUp_510 : decode cL_addUp 510 = .ok (.iload 7, 2) := by decide +kernel
theorem dL_addUp_512 : decode cL_addUp 512 = .ok (.iload 8, 2) := by decide +kernel
theorem dL_addUp_514 : decode cL_addUp 514 = .ok (.if_icmp .gt 23, 3) := by decide +kernel
theorem dL_addUp_517 : decode cL_addUp 517 = .ok (.iload 9, 2) := by decide +kernel
theorem dL_addUp_519 : decode cL_addUp 519 = .ok (.iload_n 2, 1) := by decide +kernel
theorem dL_addUp_520 : decode cL_addUp 520 = .ok (.if_icmp .ne 17, 3) := by decide +kernel
theorem dL_addUp_523 : decode cL_addUp 523 = .ok (.aload_n 0, 1) := by decide +kernel
theorem dL_addUp_524 : decode cL_addUp 524 = .ok (.iload_n 1, 1) := by decide +kernel
theorem dL_addUp_525 : decode cL_addUp 525 = .ok (.iload_n 2, 1) := by decide +kernel
theorem dL_addUp_526 : decode cL_addUp 526 = .ok (.iload_n 3, 1) := by decide +kernel
theorem dL_addUp_527 : decode cL_addUp 527 = .ok (.invokestatic 62, 3) := by decide +kernel
theorem dL_addUp_530 : decode cL_addUp 530 = .ok (.ifCond .eq 7, 3) := by decide +kernel
theorem dL_addUp_533 : decode cL_addUp 533 = .ok (.iconst 1, 1) := by decide +kernel
theorem dL_addUp_534 : decode cL_addUp 534 = .ok (.goto 4, 3) := by decide +kernel
theorem dL_addUp_537 : decode cL_addUp 537 = .ok (.iconst 0, 1) := by decide +kernel
theorem dL_addUp_538 : decode cL_addUp 538 = .ok (.ireturn, 1) := by decide +kernel
set_option maxRecDepth 20000 in
theorem ggL_byGoods_X9_good : GoodIn wsL_byGoods wsX9_good := goodIn_r _ [5, 6, 7, 8, 9, 10, 11, 12, 13, 14, 15, 16, 17, 4, 18, 19, 20, 21, 22, 23, 24, 25, 26, 27, 28, 29, 30, 31, 32, 33, 34, 35, 36, 37, 38, 39, 40, 41, 42, 43, 44, 45, 46, 47, 48, 49, 50, 51, 52, 53, 54, 55, 56, 57, 58, 59, 60, 61, 62, 63, 64, 65, 66, 67, 68, 69, 70, 71, 72, 73, 74, 75, 76, 77, 78, 79, 80, 81, 82, 83, 84, 85, 86] (by decide +kernel) (by decide +kernel)
set_option maxRecDepth 20000 in
theorem gL_byGoods_X9_good : GoodIn wsL_byGoods (wsV RL 25 RX9 yX9_good wsX9_good) := goodIn_app (goodIn_of _ (by decide +kernel)) ggL_byGoods_X9_good
theorem dL_byGoods_0 : decode cL_byGoods 0 = .ok (.iconst 0, 1) := by decide +kernel
theorem dL_byGoods_1 : decode cL_byGoods 1 = .ok (.istore 4, 2) := by decide +kernel
theorem dL_byGoods_3 : decode cL_byGoods 3 = .ok (.iconst 0, 1) := by decide +kernel
theorem dL_byGoods_4 : decode cL_byGoods 4 = .ok (.istore 5, 2) := by decide +kernel
theorem dL_byGoods_6 : decode cL_byGoods 6 = .ok (.iconst 0, 1) := by decide +kernel
theorem dL_byGoods_7 : decode cL_byGoods 7 = .ok (.istore 6, 2) := by decide +kernel
theorem dL_byGoods_9 : decode cL_byGoods 9 = .ok (.iconst 0, 1) := by decide +kernel
theorem dL_byGoods_10 : decode cL_byGoods 10 = .ok (.istore 7, 2) := by decide +kernel
theorem dL_byGoods_12 : decode cL_byGoods 12 = .ok (.iload 7, 2) := by decide +kernel
theorem dL_byGoods_14 : decode cL_byGoods 14 = .ok (.iload_n 1, 1) := by decide +kernel
theorem dL_byGoods_15 : decode cL_byGoods 15 = .ok (.if_icmp .ge 46, 3) := by decide +kernel
theorem dL_byGoods_18 : decode cL_byGoods 18 = .ok (.iload 4, 2) := by decide +kernel
theorem dL_byGoods_20 : decode cL_byGoods 20 = .ok (.aload_n 0, 1) := by decide +kernel
theorem dL_byGoods_21 : decode cL_byGoods 21 = .ok (.iload 7, 2) := by decide +kernel
theorem dL_byGoods_23 : decode cL_byGoods 23 = .ok (.iconst 3, 1) := by decide +kernel
theorem dL_byGoods_24 : decode cL_byGoods 24 = .ok (.invokevirtual 25, 3) := by decide +kernel
theorem dL_byGoods_27 : decode cL_byGoods 27 = .ok (.iadd, 1) := by decide +kernel
theorem dL_byGoods_28 : decode cL_byGoods 28 = .ok (.istore 4, 2) := by decide +kernel
theorem dL_byGoods_30 : decode cL_byGoods 30 = .ok (.iload 5, 2) := by decide +kernel
theorem dL_byGoods_32 : decode cL_byGoods 32 = .ok (.aload_n 0, 1) := by decide +kernel
theorem dL_byGoods_33 : decode cL_byGoods 33 = .ok (.iload 7, 2) := by decide +kernel
theorem dL_byGoods_35 : decode cL_byGoods 35 = .ok (.iconst 5, 1) := by decide +kernel
theorem dL_byGoods_36 : decode cL_byGoods 36 = .ok (.invokevirtual 25, 3) := by decide +kernel
theorem dL_byGoods_39 : decode cL_byGoods 39 = .ok (.iadd, 1) := by decide +kernel
theorem dL_byGoods_40 : decode cL_byGoods 40 = .ok (.istore 5, 2) := by decide +kernel
theorem dL_byGoods_42 : decode cL_byGoods 42 = .ok (.iload 6, 2) := by decide +kernel
theorem dL_byGoods_44 : decode cL_byGoods 44 = .ok (.aload_n 0, 1) := by decide +kernel
theorem dL_byGoods_45 : decode cL_byGoods 45 = .ok (.iload 7, 2) := by decide +kernel
theorem dL_byGoods_47 : decode cL_byGoods 47 = .ok (.bipush 6, 2) := by decide +kernel
theorem dL_byGoods_49 : decode cL_byGoods 49 = .ok (.invokevirtual 25, 3) := by decide +kernel
theorem dL_byGoods_52 : decode cL_byGoods 52 = .ok (.iadd, 1) := by decide +kernel
theorem dL_byGoods_53 : decode cL_byGoods 53 = .ok (.istore 6, 2) := by decide +kernel
theorem dL_byGoods_55 : decode cL_byGoods 55 = .ok (.iinc 7 1, 3) := by decide +kernel
theorem dL_byGoods_58 : decode cL_byGoods 58 = .ok (.goto (-46), 3) := by decide +kernel
theorem dL_byGoods_61 : decode cL_byGoods 61 = .ok (.iload 4, 2) := by decide +kernel
theorem dL_byGoods_63 : decode cL_byGoods 63 = .ok (.iload_n 2, 1) := by decide +kernel
theorem dL_byGoods_64 : decode cL_byGoods 64 = .ok (.if_icmp .ne 19, 3) := by decide +kernel
theorem dL_byGoods_67 : decode cL_byGoods 67 = .ok (.iload 5, 2) := by decide +kernel
theorem dL_byGoods_69 : decode cL_byGoods 69 = .ok (.iload_n 3, 1) := by decide +kernel
theorem dL_byGoods_70 : decode cL_byGoods 70 = .ok (.if_icmp .ne 13, 3) := by decide +kernel
theorem dL_byGoods_73 : decode cL_byGoods 73 = .ok (.iload 6, 2) := by decide +kernel
theorem dL_byGoods_75 : decode cL_byGoods 75 = .ok (.iload_n 3, 1) := by decide +kernel
theorem dL_byGoods_76 : decode cL_byGoods 76 = .ok (.if_icmp .ne 7, 3) := by decide +kernel
theorem dL_byGoods_79 : decode cL_byGoods 79 = .ok (.iconst 1, 1) := by decide +kernel
theorem dL_byGoods_80 : decode cL_byGoods 80 = .ok (.goto 4, 3) := by decide +kernel
theorem dL_byGoods_83 : decode cL_byGoods 83 = .ok (.iconst 0, 1) := by decide +kernel
theorem dL_byGoods_84 : decode cL_byGoods 84 = .ok (.ireturn, 1) := by decide +kernel
set_option maxRecDepth 20000 in
theorem ggL_order_L_low : GoodIn wsL_order wsL_low := goodIn_r _ [4, 5] (by decide +kernel) (by decide +kernel)
set_option maxRecDepth 20000 in
theorem gL_order_L_low : GoodIn wsL_order (va_wsS RL 16 yL_low wsL_low) := goodIn_app (goodIn_of _ (by decide +kernel)) ggL_order_L_low
set_option maxRecDepth 20000 in
theorem ggL_order_X9_wouldGet : GoodIn wsL_order wsX9_wouldGet := goodIn_r _ [10, 11, 12, 13, 14, 15, 16, 17, 18, 19, 9, 20, 21, 22, 23, 24, 25, 26, 27, 28, 29, 30, 31, 32, 33, 34, 35, 36, 37, 38, 39, 40, 41, 42, 43, 44, 45, 46, 47, 48, 49, 50, 51, 52, 53, 54, 55, 56, 57, 58, 59, 60, 61, 62, 63, 64, 65, 66, 67, 68, 69, 70, 71, 72, 73, 74, 75, 76, 77, 78, 79, 80, 81, 82, 83, 84, 85, 86, 87, 88, 89, 90, 91, 92, 93, 94, 95, 96, 97, 98, 99, 100, 101, 102, 103, 104, 105, 106, 107, 108, 109, 110, 111, 112, 113, 114, 115, 116, 117, 118, 119, 120, 121, 122, 123, 124, 310, 311, 312, 313, 314, 315, 316, 317, 318, 319, 320, 321, 322, 323, 324, 325, 326, 327, 328, 329, 330, 331, 332, 333, 334, 335, 336, 337, 338, 339, 340, 341, 342, 343, 344, 345, 346, 347, 348, 349, 350, 351, 352, 353] (by decide +kernel) (by decide +kernel)
set_option maxRecDepth 20000 in
theorem gL_order_X9_wouldGet : GoodIn wsL_order (wsV RL 66 RX9 yX9_wouldGet wsX9_wouldGet) := goodIn_app (goodIn_of _ (by decide +kernel)) ggL_order_X9_wouldGet
set_option maxRecDepth 20000 in
theorem ggL_order_X9_count : GoodIn wsL_order wsX9_count := goodIn_r _ [128, 12, 129, 130, 131, 25, 26, 132, 133, 134, 135, 136, 137, 138, 139, 140, 141, 142, 143, 144, 145, 146, 147, 148, 149, 150, 151, 152, 153, 154, 155, 156, 157, 158, 159, 160, 161, 162, 163, 164, 165, 166, 167, 310, 311, 312, 313, 314, 315, 316, 317, 318, 330, 331, 332, 333, 334, 335, 336, 337, 338, 339, 340, 341, 342, 343, 344, 345, 346, 347, 348, 349, 350, 351, 354, 355, 356, 357, 358, 359, 360, 361, 362, 363, 364, 365, 366, 367, 368, 369, 370] (by decide +kernel) (by decide +kernel)
set_option maxRecDepth 20000 in
theorem gL_order_X9_count : GoodIn wsL_order (wsV RL 41 RX9 yX9_count wsX9_count) := goodIn_app (goodIn_of _ (by decide +kernel)) ggL_order_X9_count
set_option maxRecDepth 20000 in
theorem ggL_order_X9_order : GoodIn wsL_order wsX9_order := goodIn_r _ [171, 12, 130, 133, 142, 131, 11, 13, 17, 18, 19, 9, 20, 21, 22, 23, 24, 25, 26, 27, 28, 29, 172, 173, 174, 175, 176, 177, 178, 179, 180, 181, 182, 61, 183, 63, 65, 184, 67, 185, 186, 187, 188, 189, 190, 191, 117, 192, 193, 194, 195, 196, 119, 48, 49, 50, 51, 52, 53, 54, 55, 56, 57, 197, 198, 199, 148, 200, 150, 201, 202, 203, 204, 205, 206, 207, 155, 208, 209, 210, 160, 211, 162, 212, 213, 214, 167, 215, 216, 217, 218, 219, 220, 221, 222, 223, 224, 225, 226, 79, 227, 81, 228, 229, 230, 231, 232, 233, 234, 235, 236, 237, 238, 239, 240, 241, 242, 243, 30, 31, 32, 33, 34, 35, 36, 37, 38, 39, 40, 41, 42, 43, 44, 45, 46, 47, 58, 59, 60, 62, 64, 66, 68, 69, 70, 71, 72, 73, 74, 75, 76, 77, 78, 80, 82, 83, 84, 85, 86, 87, 88, 89, 90, 91, 92, 93, 94, 95, 96, 97, 98, 99, 100, 101, 102, 103, 104, 105, 106, 107, 108, 109, 110, 111, 112, 113, 114, 115, 116, 118, 244, 245, 246, 247, 248, 249, 250, 251, 252, 253, 254, 255, 256, 257, 258, 259, 260, 261, 262, 263, 264, 265, 266, 121, 122, 123, 124, 267, 268, 269, 270, 310, 311, 312, 313, 314, 315, 316, 317, 318, 330, 331, 332, 333, 334, 335, 336, 337, 354, 355, 356, 357, 358, 359, 360, 361, 362, 363, 364, 365, 366, 367, 319, 320, 321, 322, 323, 324, 325, 326, 327, 328, 329, 338, 339, 340, 341, 342, 368, 369, 370, 343, 344, 345, 346, 347, 348, 349, 350, 351, 352, 353, 371, 372, 373, 374, 375, 376] (by decide +kernel) (by decide +kernel)
set_option maxRecDepth 20000 in
theorem gL_order_X9_order : GoodIn wsL_order (wsV RL 70 RX9 yX9_order wsX9_order) := goodIn_app (goodIn_of _ (by decide +kernel)) ggL_order_X9_order
set_option maxRecDepth 20000 in
theorem ggL_order_X9_orderTold : GoodIn wsL_order wsX9_orderTold := goodIn_r _ [274, 12, 130, 275, 138, 139, 276, 277, 278, 279, 140, 280, 281, 282, 283, 9, 284, 133, 27, 28, 29, 310, 311, 312, 313, 314, 315, 316, 317, 318, 330, 331, 332, 333, 334, 335, 336, 337, 354, 355, 356, 357, 358, 359, 360, 361, 362, 363, 364, 365, 366, 367] (by decide +kernel) (by decide +kernel)
set_option maxRecDepth 20000 in
theorem gL_order_X9_orderTold : GoodIn wsL_order (wsV RL 56 RX9 yX9_orderTold wsX9_orderTold) := goodIn_app (goodIn_of _ (by decide +kernel)) ggL_order_X9_orderTold
set_option maxRecDepth 20000 in
theorem ggL_order_X9_event : GoodIn wsL_order wsX9_event := goodIn_r _ [288, 12, 289, 290, 291, 292, 293, 294, 27, 28, 9, 29, 295, 296, 297, 232, 298, 235, 299, 300, 301, 302, 310, 311, 312, 313, 314, 315, 316, 317, 318, 330, 331, 332, 333, 334, 335, 336, 337, 371, 372, 373, 374, 375, 376] (by decide +kernel) (by decide +kernel)
set_option maxRecDepth 20000 in
theorem gL_order_X9_event : GoodIn wsL_order (wsV RL 74 RX9 yX9_event wsX9_event) := goodIn_app (goodIn_of _ (by decide +kernel)) ggL_order_X9_event
set_option maxRecDepth 20000 in
theorem ggL_order_X9_taken : GoodIn wsL_order wsX9_taken := goodIn_r _ [306, 12, 130, 279, 307, 308, 309, 281, 282, 283, 9, 284, 133, 27, 28, 29, 310, 311, 312, 313, 314, 315, 316, 317, 318, 330, 331, 332, 333, 334, 335, 336, 337, 354, 355, 356, 357, 358, 359, 360, 361, 362, 363, 364, 365, 366, 367] (by decide +kernel) (by decide +kernel)
set_option maxRecDepth 20000 in
theorem gL_order_X9_taken : GoodIn wsL_order (wsV RL 59 RX9 yX9_taken wsX9_taken) := goodIn_app (goodIn_of _ (by decide +kernel)) ggL_order_X9_taken
theorem dL_order_0 : decode cL_order 0 = .ok (.iconst 1, 1) := by decide +kernel
theorem dL_order_1 : decode cL_order 1 = .ok (.iload_n 2, 1) := by decide +kernel
theorem dL_order_2 : decode cL_order 2 = .ok (.bipush 6, 2) := by decide +kernel
theorem dL_order_4 : decode cL_order 4 = .ok (.ishr, 1) := by decide +kernel
theorem dL_order_5 : decode cL_order 5 = .ok (.iload_n 2, 1) := by decide +kernel
theorem dL_order_6 : decode cL_order 6 = .ok (.bipush 27, 2) := by decide +kernel
theorem dL_order_8 : decode cL_order 8 = .ok (.ishr, 1) := by decide +kernel
theorem dL_order_9 : decode cL_order 9 = .ok (.iconst 3, 1) := by decide +kernel
theorem dL_order_10 : decode cL_order 10 = .ok (.invokestatic 16, 3) := by decide +kernel
theorem dL_order_13 : decode cL_order 13 = .ok (.ifCond .ne 9, 3) := by decide +kernel
theorem dL_order_16 : decode cL_order 16 = .ok (.sipush 400, 3) := by decide +kernel
theorem dL_order_19 : decode cL_order 19 = .ok (.goto 5, 3) := by decide +kernel
theorem dL_order_22 : decode cL_order 22 = .ok (.bipush 30, 2) := by decide +kernel
theorem dL_order_24 : decode cL_order 24 = .ok (.invokestatic 16, 3) := by decide +kernel
theorem dL_order_27 : decode cL_order 27 = .ok (.iadd, 1) := by decide +kernel
theorem dL_order_28 : decode cL_order 28 = .ok (.istore_n 3, 1) := by decide +kernel
theorem dL_order_29 : decode cL_order 29 = .ok (.iload_n 2, 1) := by decide +kernel
theorem dL_order_30 : decode cL_order 30 = .ok (.bipush 15, 2) := by decide +kernel
theorem dL_order_32 : decode cL_order 32 = .ok (.ishr, 1) := by decide +kernel
theorem dL_order_33 : decode cL_order 33 = .ok (.bipush 9, 2) := by decide +kernel
theorem dL_order_35 : decode cL_order 35 = .ok (.invokestatic 16, 3) := by decide +kernel
theorem dL_order_38 : decode cL_order 38 = .ok (.istore 4, 2) := by decide +kernel
theorem dL_order_40 : decode cL_order 40 = .ok (.iload_n 2, 1) := by decide +kernel
theorem dL_order_41 : decode cL_order 41 = .ok (.bipush 20, 2) := by decide +kernel
theorem dL_order_43 : decode cL_order 43 = .ok (.ishr, 1) := by decide +kernel
theorem dL_order_44 : decode cL_order 44 = .ok (.iconst 3, 1) := by decide +kernel
theorem dL_order_45 : decode cL_order 45 = .ok (.invokestatic 16, 3) := by decide +kernel
theorem dL_order_48 : decode cL_order 48 = .ok (.ifCond .le 7, 3) := by decide +kernel
theorem dL_order_51 : decode cL_order 51 = .ok (.iconst 1, 1) := by decide +kernel
theorem dL_order_52 : decode cL_order 52 = .ok (.goto 4, 3) := by decide +kernel
theorem dL_order_55 : decode cL_order 55 = .ok (.iconst 0, 1) := by decide +kernel
theorem dL_order_56 : decode cL_order 56 = .ok (.istore 5, 2) := by decide +kernel
theorem dL_order_58 : decode cL_order 58 = .ok (.aload_n 0, 1) := by decide +kernel
theorem dL_order_59 : decode cL_order 59 = .ok (.iload_n 1, 1) := by decide +kernel
theorem dL_order_60 : decode cL_order 60 = .ok (.iload_n 3, 1) := by decide +kernel
theorem dL_order_61 : decode cL_order 61 = .ok (.iload 4, 2) := by decide +kernel
theorem dL_order_63 : decode cL_order 63 = .ok (.iload 5, 2) := by decide +kernel
theorem dL_order_65 : decode cL_order 65 = .ok (.iconst 0, 1) := by decide +kernel
theorem dL_order_66 : decode cL_order 66 = .ok (.invokevirtual 66, 3) := by decide +kernel
theorem dL_order_69 : decode cL_order 69 = .ok (.istore 6, 2) := by decide +kernel
theorem dL_order_71 : decode cL_order 71 = .ok (.aload_n 0, 1) := by decide +kernel
theorem dL_order_72 : decode cL_order 72 = .ok (.iload_n 1, 1) := by decide +kernel
theorem dL_order_73 : decode cL_order 73 = .ok (.iload_n 3, 1) := by decide +kernel
theorem dL_order_74 : decode cL_order 74 = .ok (.iload 4, 2) := by decide +kernel
theorem dL_order_76 : decode cL_order 76 = .ok (.iload 5, 2) := by decide +kernel
theorem dL_order_78 : decode cL_order 78 = .ok (.iconst 1, 1) := by decide +kernel
theorem dL_order_79 : decode cL_order 79 = .ok (.invokevirtual 66, 3) := by decide +kernel
theorem dL_order_82 : decode cL_order 82 = .ok (.istore 7, 2) := by decide +kernel
theorem dL_order_84 : decode cL_order 84 = .ok (.aload_n 0, 1) := by decide +kernel
theorem dL_order_85 : decode cL_order 85 = .ok (.iload_n 1, 1) := by decide +kernel
theorem dL_order_86 : decode cL_order 86 = .ok (.iload_n 3, 1) := by decide +kernel
theorem dL_order_87 : decode cL_order 87 = .ok (.iload 4, 2) := by decide +kernel
theorem dL_order_89 : decode cL_order 89 = .ok (.iload 5, 2) := by decide +kernel
theorem dL_order_91 : decode cL_order 91 = .ok (.iconst 2, 1) := by decide +kernel
theorem dL_order_92 : decode cL_order 92 = .ok (.invokevirtual 66, 3) := by decide +kernel
theorem dL_order_95 : decode cL_order 95 = .ok (.istore 8, 2) := by decide +kernel
theorem dL_order_97 : decode cL_order 97 = .ok (.aload_n 0, 1) := by decide +kernel
theorem dL_order_98 : decode cL_order 98 = .ok (.iload_n 1, 1) := by decide +kernel
theorem dL_order_99 : decode cL_order 99 = .ok (.iload_n 3, 1) := by decide +kernel
theorem dL_order_100 : decode cL_order 100 = .ok (.iload 4, 2) := by decide +kernel
theorem dL_order_102 : decode cL_order 102 = .ok (.iload 5, 2) := by decide +kernel
theorem dL_order_104 : decode cL_order 104 = .ok (.iconst 3, 1) := by decide +kernel
theorem dL_order_105 : decode cL_order 105 = .ok (.invokevirtual 66, 3) := by decide +kernel
theorem dL_order_108 : decode cL_order 108 = .ok (.istore 9, 2) := by decide +kernel
theorem dL_order_110 : decode cL_order 110 = .ok (.aload_n 0, 1) := by decide +kernel
theorem dL_order_111 : decode cL_order 111 = .ok (.iconst 3, 1) := by decide +kernel
theorem dL_order_112 : decode cL_order 112 = .ok (.invokevirtual 41, 3) := by decide +kernel
theorem dL_order_115 : decode cL_order 115 = .ok (.istore 10, 2) := by decide +kernel
theorem dL_order_117 : decode cL_order 117 = .ok (.aload_n 0, 1) := by decide +kernel
theorem dL_order_118 : decode cL_order 118 = .ok (.iconst 4, 1) := by decide +kernel
theorem dL_order_119 : decode cL_order 119 = .ok (.invokevirtual 41, 3) := by decide +kernel
theorem dL_order_122 : decode cL_order 122 = .ok (.istore 11, 2) := by decide +kernel
theorem dL_order_124 : decode cL_order 124 = .ok (.aload_n 0, 1) := by decide +kernel
theorem dL_order_125 : decode cL_order 125 = .ok (.iload_n 1, 1) := by decide +kernel
theorem dL_order_126 : decode cL_order 126 = .ok (.iload_n 3, 1) := by decide +kernel
theorem dL_order_127 : decode cL_order 127 = .ok (.iload 4, 2) := by decide +kernel
theorem dL_order_129 : decode cL_order 129 = .ok (.iload 5, 2) := by decide +kernel
theorem dL_order_131 : decode cL_order 131 = .ok (.invokevirtual 70, 3) := by decide +kernel
theorem dL_order_134 : decode cL_order 134 = .ok (.istore 12, 2) := by decide +kernel
theorem dL_order_136 : decode cL_order 136 = .ok (.iload 10, 2) := by decide +kernel
theorem dL_order_138 : decode cL_order 138 = .ok (.bipush 30, 2) := by decide +kernel
theorem dL_order_140 : decode cL_order 140 = .ok (.if_icmp .ne 16, 3) := by decide +kernel
theorem dL_order_143 : decode cL_order 143 = .ok (.iload 12, 2) := by decide +kernel
theorem dL_order_145 : decode cL_order 145 = .ok (.bipush (-3), 2) := by decide +kernel
theorem dL_order_147 : decode cL_order 147 = .ok (.if_icmp .ne 7, 3) := by decide +kernel
theorem dL_order_150 : decode cL_order 150 = .ok (.iconst 1, 1) := by decide +kernel
theorem dL_order_151 : decode cL_order 151 = .ok (.goto 4, 3) := by decide +kernel
theorem dL_order_154 : decode cL_order 154 = .ok (.iconst 0, 1) := by decide +kernel
theorem dL_order_155 : decode cL_order 155 = .ok (.ireturn, 1) := by decide +kernel
theorem dL_order_156 : decode cL_order 156 = .ok (.iload 12, 2) := by decide +kernel
theorem dL_order_158 : decode cL_order 158 = .ok (.iload 6, 2) := by decide +kernel
theorem dL_order_160 : decode cL_order 160 = .ok (.if_icmp .ne 70, 3) := by decide +kernel
theorem dL_order_163 : decode cL_order 163 = .ok (.aload_n 0, 1) := by decide +kernel
theorem dL_order_164 : decode cL_order 164 = .ok (.iload 10, 2) := by decide +kernel
theorem dL_order_166 : decode cL_order 166 = .ok (.iconst 2, 1) := by decide +kernel
theorem dL_order_167 : decode cL_order 167 = .ok (.invokevirtual 56, 3) := by decide +kernel
theorem dL_order_170 : decode cL_order 170 = .ok (.iload 6, 2) := by decide +kernel
theorem dL_order_172 : decode cL_order 172 = .ok (.if_icmp .ne 58, 3) := by decide +kernel
theorem dL_order_175 : decode cL_order 175 = .ok (.aload_n 0, 1) := by decide +kernel
theorem dL_order_176 : decode cL_order 176 = .ok (.iload 10, 2) := by decide +kernel
theorem dL_order_178 : decode cL_order 178 = .ok (.iconst 3, 1) := by decide +kernel
theorem dL_order_179 : decode cL_order 179 = .ok (.invokevirtual 56, 3) := by decide +kernel
theorem dL_order_182 : decode cL_order 182 = .ok (.iload 7, 2) := by decide +kernel
theorem dL_order_184 : decode cL_order 184 = .ok (.if_icmp .ne 46, 3) := by decide +kernel
theorem dL_order_187 : decode cL_order 187 = .ok (.aload_n 0, 1) := by decide +kernel
theorem dL_order_188 : decode cL_order 188 = .ok (.iload 10, 2) := by decide +kernel
theorem dL_order_190 : decode cL_order 190 = .ok (.bipush 6, 2) := by decide +kernel
theorem dL_order_192 : decode cL_order 192 = .ok (.invokevirtual 56, 3) := by decide +kernel
theorem dL_order_195 : decode cL_order 195 = .ok (.iload 8, 2) := by decide +kernel
theorem dL_order_197 : decode cL_order 197 = .ok (.if_icmp .ne 33, 3) := by decide +kernel
theorem dL_order_200 : decode cL_order 200 = .ok (.aload_n 0, 1) := by decide +kernel
theorem dL_order_201 : decode cL_order 201 = .ok (.iload 10, 2) := by decide +kernel
theorem dL_order_203 : decode cL_order 203 = .ok (.bipush 7, 2) := by decide +kernel
theorem dL_order_205 : decode cL_order 205 = .ok (.invokevirtual 56, 3) := by decide +kernel
theorem dL_order_208 : decode cL_order 208 = .ok (.iload 9, 2) := by decide +kernel
theorem dL_order_210 : decode cL_order 210 = .ok (.if_icmp .ne 20, 3) := by decide +kernel
theorem dL_order_213 : decode cL_order 213 = .ok (.aload_n 0, 1) := by decide +kernel
theorem dL_order_214 : decode cL_order 214 = .ok (.iconst 4, 1) := by decide +kernel
theorem dL_order_215 : decode cL_order 215 = .ok (.invokevirtual 41, 3) := by decide +kernel
theorem dL_order_218 : decode cL_order 218 = .ok (.iload 11, 2) := by decide +kernel
theorem dL_order_220 : decode cL_order 220 = .ok (.iload 6, 2) := by decide +kernel
theorem dL_order_222 : decode cL_order 222 = .ok (.isub, 1) := by decide +kernel
theorem dL_order_223 : decode cL_order 223 = .ok (.if_icmp .ne 7, 3) := by decide +kernel
theorem dL_order_226 : decode cL_order 226 = .ok (.iconst 1, 1) := by decide +kernel
theorem dL_order_227 : decode cL_order 227 = .ok (.goto 4, 3) := by decide +kernel
theorem dL_order_230 : decode cL_order 230 = .ok (.iconst 0, 1) := by decide +kernel
theorem dL_order_231 : decode cL_order 231 = .ok (.istore 13, 2) := by decide +kernel
theorem dL_order_233 : decode cL_order 233 = .ok (.iload 13, 2) := by decide +kernel
theorem dL_order_235 : decode cL_order 235 = .ok (.ifCond .eq 72, 3) := by decide +kernel
theorem dL_order_238 : decode cL_order 238 = .ok (.aload_n 0, 1) := by decide +kernel
theorem dL_order_239 : decode cL_order 239 = .ok (.iload 10, 2) := by decide +kernel
theorem dL_order_241 : decode cL_order 241 = .ok (.iconst 0, 1) := by decide +kernel
theorem dL_order_242 : decode cL_order 242 = .ok (.invokevirtual 56, 3) := by decide +kernel
theorem dL_order_245 : decode cL_order 245 = .ok (.iload_n 1, 1) := by decide +kernel
theorem dL_order_246 : decode cL_order 246 = .ok (.if_icmp .ne 61, 3) := by decide +kernel
theorem dL_order_249 : decode cL_order 249 = .ok (.aload_n 0, 1) := by decide +kernel
theorem dL_order_250 : decode cL_order 250 = .ok (.iload 10, 2) := by decide +kernel
theorem dL_order_252 : decode cL_order 252 = .ok (.iconst 1, 1) := by decide +kernel
theorem dL_order_253 : decode cL_order 253 = .ok (.invokevirtual 56, 3) := by decide +kernel
theorem dL_order_256 : decode cL_order 256 = .ok (.iload_n 3, 1) := by decide +kernel
theorem dL_order_257 : decode cL_order 257 = .ok (.if_icmp .ne 50, 3) := by decide +kernel
theorem dL_order_260 : decode cL_order 260 = .ok (.aload_n 0, 1) := by decide +kernel
theorem dL_order_261 : decode cL_order 261 = .ok (.iload 10, 2) := by decide +kernel
theorem dL_order_263 : decode cL_order 263 = .ok (.iconst 4, 1) := by decide +kernel
theorem dL_order_264 : decode cL_order 264 = .ok (.invokevirtual 56, 3) := by decide +kernel
theorem dL_order_267 : decode cL_order 267 = .ok (.iload 4, 2) := by decide +kernel
theorem dL_order_269 : decode cL_order 269 = .ok (.if_icmp .ne 38, 3) := by decide +kernel
theorem dL_order_272 : decode cL_order 272 = .ok (.aload_n 0, 1) := by decide +kernel
theorem dL_order_273 : decode cL_order 273 = .ok (.iload 10, 2) := by decide +kernel
theorem dL_order_275 : decode cL_order 275 = .ok (.bipush 8, 2) := by decide +kernel
theorem dL_order_277 : decode cL_order 277 = .ok (.invokevirtual 56, 3) := by decide +kernel
theorem dL_order_280 : decode cL_order 280 = .ok (.aload_n 0, 1) := by decide +kernel
theorem dL_order_281 : decode cL_order 281 = .ok (.iconst 0, 1) := by decide +kernel
theorem dL_order_282 : decode cL_order 282 = .ok (.invokevirtual 41, 3) := by decide +kernel
theorem dL_order_285 : decode cL_order 285 = .ok (.if_icmp .ne 22, 3) := by decide +kernel
theorem dL_order_288 : decode cL_order 288 = .ok (.iload 9, 2) := by decide +kernel
theorem dL_order_290 : decode cL_order 290 = .ok (.ifCond .lt 17, 3) := by decide +kernel
theorem dL_order_293 : decode cL_order 293 = .ok (.iload 5, 2) := by decide +kernel
theorem dL_order_295 : decode cL_order 295 = .ok (.ifCond .ne 8, 3) := by decide +kernel
theorem dL_order_298 : decode cL_order 298 = .ok (.iload 7, 2) := by decide +kernel
theorem dL_order_300 : decode cL_order 300 = .ok (.ifCond .ne 7, 3) := by decide +kernel
theorem dL_order_303 : decode cL_order 303 = .ok (.iconst 1, 1) := by decide +kernel
theorem dL_order_304 : decode cL_order 304 = .ok (.goto 4, 3) := by decide +kernel
theorem dL_order_307 : decode cL_order 307 = .ok (.iconst 0, 1) := by decide +kernel
theorem dL_order_308 : decode cL_order 308 = .ok (.istore 13, 2) := by decide +kernel
theorem dL_order_310 : decode cL_order 310 = .ok (.iload 13, 2) := by decide +kernel
theorem dL_order_312 : decode cL_order 312 = .ok (.ifCond .eq 27, 3) := by decide +kernel
theorem dL_order_315 : decode cL_order 315 = .ok (.iload 12, 2) := by decide +kernel
theorem dL_order_317 : decode cL_order 317 = .ok (.iload_n 3, 1) := by decide +kernel
theorem dL_order_318 : decode cL_order 318 = .ok (.if_icmp .eq 17, 3) := by decide +kernel
theorem dL_order_321 : decode cL_order 321 = .ok (.aload_n 0, 1) := by decide +kernel
theorem dL_order_322 : decode cL_order 322 = .ok (.iload_n 1, 1) := by decide +kernel
theorem dL_order_323 : decode cL_order 323 = .ok (.iconst 1, 1) := by decide +kernel
theorem dL_order_324 : decode cL_order 324 = .ok (.iload 4, 2) := by decide +kernel
theorem dL_order_326 : decode cL_order 326 = .ok (.iload 5, 2) := by decide +kernel
theorem dL_order_328 : decode cL_order 328 = .ok (.iconst 0, 1) := by decide +kernel
theorem dL_order_329 : decode cL_order 329 = .ok (.invokevirtual 66, 3) := by decide +kernel
theorem dL_order_332 : decode cL_order 332 = .ok (.ifCond .ne 7, 3) := by decide +kernel
theorem dL_order_335 : decode cL_order 335 = .ok (.iconst 1, 1) := by decide +kernel
theorem dL_order_336 : decode cL_order 336 = .ok (.goto 4, 3) := by decide +kernel
theorem dL_order_339 : decode cL_order 339 = .ok (.iconst 0, 1) := by decide +kernel
theorem dL_order_340 : decode cL_order 340 = .ok (.istore 13, 2) := by decide +kernel
theorem dL_order_342 : decode cL_order 342 = .ok (.iload 13, 2) := by decide +kernel
theorem dL_order_344 : decode cL_order 344 = .ok (.ifCond .eq 62, 3) := by decide +kernel
theorem dL_order_347 : decode cL_order 347 = .ok (.iload 12, 2) := by decide +kernel
theorem dL_order_349 : decode cL_order 349 = .ok (.ifCond .eq 53, 3) := by decide +kernel
theorem dL_order_352 : decode cL_order 352 = .ok (.aload_n 0, 1) := by decide +kernel
theorem dL_order_353 : decode cL_order 353 = .ok (.iconst 0, 1) := by decide +kernel
theorem dL_order_354 : decode cL_order 354 = .ok (.iconst 0, 1) := by decide +kernel
theorem dL_order_355 : decode cL_order 355 = .ok (.invokevirtual 74, 3) := by decide +kernel
theorem dL_order_358 : decode cL_order 358 = .ok (.iconst 1, 1) := by decide +kernel
theorem dL_order_359 : decode cL_order 359 = .ok (.if_icmp .ne 47, 3) := by decide +kernel
theorem dL_order_362 : decode cL_order 362 = .ok (.aload_n 0, 1) := by decide +kernel
theorem dL_order_363 : decode cL_order 363 = .ok (.iconst 0, 1) := by decide +kernel
theorem dL_order_364 : decode cL_order 364 = .ok (.iconst 1, 1) := by decide +kernel
theorem dL_order_365 : decode cL_order 365 = .ok (.invokevirtual 74, 3) := by decide +kernel
theorem dL_order_368 : decode cL_order 368 = .ok (.aload_n 0, 1) := by decide +kernel
theorem dL_order_369 : decode cL_order 369 = .ok (.iload 10, 2) := by decide +kernel
theorem dL_order_371 : decode cL_order 371 = .ok (.iload 8, 2) := by decide +kernel
theorem dL_order_373 : decode cL_order 373 = .ok (.iconst 1, 1) := by decide +kernel
theorem dL_order_374 : decode cL_order 374 = .ok (.isub, 1) := by decide +kernel
theorem dL_order_375 : decode cL_order 375 = .ok (.iconst 0, 1) := by decide +kernel
theorem dL_order_376 : decode cL_order 376 = .ok (.invokevirtual 59, 3) := by decide +kernel
theorem dL_order_379 : decode cL_order 379 = .ok (.if_icmp .ne 27, 3) := by decide +kernel
theorem dL_order_382 : decode cL_order 382 = .ok (.aload_n 0, 1) := by decide +kernel
theorem dL_order_383 : decode cL_order 383 = .ok (.iconst 0, 1) := by decide +kernel
theorem dL_order_384 : decode cL_order 384 = .ok (.iconst 2, 1) := by decide +kernel
theorem dL_order_385 : decode cL_order 385 = .ok (.invokevirtual 74, 3) := by decide +kernel
theorem dL_order_388 : decode cL_order 388 = .ok (.aload_n 0, 1) := by decide +kernel
theorem dL_order_389 : decode cL_order 389 = .ok (.iload 10, 2) := by decide +kernel
theorem dL_order_391 : decode cL_order 391 = .ok (.iload 8, 2) := by decide +kernel
theorem dL_order_393 : decode cL_order 393 = .ok (.iconst 1, 1) := by decide +kernel
theorem dL_order_394 : decode cL_order 394 = .ok (.isub, 1) := by decide +kernel
theorem dL_order_395 : decode cL_order 395 = .ok (.iconst 1, 1) := by decide +kernel
theorem dL_order_396 : decode cL_order 396 = .ok (.invokevirtual 59, 3) := by decide +kernel
theorem dL_order_399 : decode cL_order 399 = .ok (.if_icmp .ne 7, 3) := by decide +kernel
theorem dL_order_402 : decode cL_order 402 = .ok (.iconst 1, 1) := by decide +kernel
theorem dL_order_403 : decode cL_order 403 = .ok (.goto 4, 3) := by decide +kernel
theorem dL_order_406 : decode cL_order 406 = .ok (.iconst 0, 1) := by decide +kernel
theorem dL_order_407 : decode cL_order 407 = .ok (.ireturn, 1) := by decide +kernel
set_option maxRecDepth 20000 in
theorem ggL_pass_X9_count : GoodIn wsL_pass wsX9_count := goodIn_r _ [5, 6, 7, 8, 9, 10, 11, 12, 13, 14, 15, 16, 17, 18, 19, 20, 21, 22, 23, 24, 25, 26, 27, 28, 29, 30, 31, 32, 33, 34, 35, 36, 37, 38, 39, 40, 41, 42, 43, 44, 45, 46, 47, 209, 210, 211, 212, 213, 214, 215, 216, 217, 218, 219, 220, 221, 222, 223, 224, 225, 226, 227, 228, 229, 230, 231, 232, 233, 234, 235, 236, 237, 238, 239, 240, 241, 242, 243, 244, 245, 246, 247, 248, 249, 250, 251, 252, 253, 254, 255, 256] (by decide +kernel) (by decide +kernel)
set_option maxRecDepth 20000 in
theorem gL_pass_X9_count : GoodIn wsL_pass (wsV RL 41 RX9 yX9_count wsX9_count) := goodIn_app (goodIn_of _ (by decide +kernel)) ggL_pass_X9_count
set_option maxRecDepth 20000 in
theorem ggL_pass_X9_wouldExpire : GoodIn wsL_pass wsX9_wouldExpire := goodIn_r _ [51, 52, 6, 7, 17, 53, 54, 55, 4, 56, 12, 57, 58, 59, 60, 61, 62, 63, 64, 65, 66, 67, 68, 69, 70, 71, 72, 73, 74, 75, 76, 77, 78, 79, 80, 81, 82, 83, 84, 85, 86, 87, 88, 89, 90, 91, 92, 93, 94, 95, 28, 96, 30, 97, 98, 99, 100, 101, 102, 103, 35, 104, 105, 106, 40, 107, 42, 108, 109, 110, 47, 111, 112, 113, 114, 115, 116, 117, 118, 119, 120, 121, 122, 123, 124, 125, 126, 127, 128, 129, 130, 131, 132, 133, 134, 135, 136, 137, 138, 139, 140, 141, 142, 143, 144, 145, 146, 147, 148, 149, 150, 151, 152, 153, 154, 155, 156, 157, 158, 159, 160, 161, 162, 163, 164, 165, 166, 167, 168, 169, 170, 171, 172, 173, 174, 175, 176, 177, 178, 179, 180, 181, 182, 209, 210, 211, 212, 213, 214, 215, 216, 217, 218, 219, 220, 221, 222, 223, 224, 225, 231, 232, 233, 234, 235, 236, 237, 238, 239, 226, 227, 228, 229, 230, 240, 241, 242, 243, 244, 245, 246, 247, 248, 249, 250, 251, 252, 253, 257, 258, 259, 260, 261, 262, 263, 264] (by decide +kernel) (by decide +kernel)
set_option maxRecDepth 20000 in
theorem gL_pass_X9_wouldExpire : GoodIn wsL_pass (wsV RL 77 RX9 yX9_wouldExpire wsX9_wouldExpire) := goodIn_app (goodIn_of _ (by decide +kernel)) ggL_pass_X9_wouldExpire
set_option maxRecDepth 20000 in
theorem ggL_pass_X9_batch : GoodIn wsL_pass wsX9_batch := goodIn_r _ [186, 6, 7, 187, 188, 189, 14, 15, 16, 17, 190, 53, 54, 55, 4, 56, 12, 57, 58, 59, 191, 192, 193, 28, 194, 35, 195, 169, 170, 63, 171, 68, 66, 152, 65, 172, 173, 174, 175, 176, 123, 177, 125, 209, 210, 211, 212, 213, 214, 215, 216, 217, 218, 219, 220, 221, 222, 223, 224, 225, 231, 232, 233, 234, 235, 236, 237, 238, 239, 226, 227, 228, 229, 230, 257, 258] (by decide +kernel) (by decide +kernel)
set_option maxRecDepth 20000 in
theorem gL_pass_X9_batch : GoodIn wsL_pass (wsV RL 35 RX9 yX9_batch wsX9_batch) := goodIn_app (goodIn_of _ (by decide +kernel)) ggL_pass_X9_batch
set_option maxRecDepth 20000 in
theorem ggL_pass_X9_pass : GoodIn wsL_pass wsX9_pass := goodIn_r _ [199, 6, 9, 22, 57, 58, 4, 59, 200, 201, 202, 203, 204, 205, 206, 207, 208, 61, 62, 63, 64, 65, 66, 67, 68, 69, 70, 71, 72, 73, 74, 75, 76, 77, 78, 79, 80, 81, 82, 83, 84, 85, 86, 87, 88, 89, 90, 91, 92, 93, 94, 95, 28, 96, 30, 97, 98, 99, 100, 101, 102, 103, 35, 104, 105, 106, 40, 107, 42, 108, 109, 110, 47, 111, 112, 113, 114, 115, 116, 117, 118, 119, 120, 121, 122, 123, 124, 125, 126, 127, 128, 129, 130, 131, 132, 133, 134, 135, 136, 137, 138, 139, 140, 141, 142, 143, 144, 145, 146, 147, 148, 149, 150, 151, 152, 153, 154, 155, 156, 157, 158, 159, 160, 161, 162, 163, 164, 165, 166, 167, 168, 169, 170, 171, 172, 173, 174, 175, 176, 177, 178, 179, 180, 181, 182, 209, 210, 211, 212, 213, 214, 215, 216, 217, 218, 219, 220, 221, 222, 223, 224, 225, 254, 255, 256, 226, 227, 228, 229, 230, 231, 232, 233, 234, 235, 236, 237, 238, 239, 240, 241, 242, 243, 244, 245, 246, 247, 248, 249, 250, 251, 252, 253, 257, 258, 259, 260, 261, 262, 263, 264] (by decide +kernel) (by decide +kernel)
set_option maxRecDepth 20000 in
theorem gL_pass_X9_pass : GoodIn wsL_pass (wsV RL 80 RX9 yX9_pass wsX9_pass) := goodIn_app (goodIn_of _ (by decide +kernel)) ggL_pass_X9_pass
theorem dL_pass_0 : decode cL_pass 0 = .ok (.iconst 0, 1) := by decide +kernel
theorem dL_pass_1 : decode cL_pass 1 = .ok (.istore_n 2, 1) := by decide +kernel
theorem dL_pass_2 : decode cL_pass 2 = .ok (.iconst 0, 1) := by decide +kernel
theorem dL_pass_3 : decode cL_pass 3 = .ok (.istore_n 3, 1) := by decide +kernel
theorem dL_pass_4 : decode cL_pass 4 = .ok (.iconst 0, 1) := by decide +kernel
theorem dL_pass_5 : decode cL_pass 5 = .ok (.istore 4, 2) := by decide +kernel
theorem dL_pass_7 : decode cL_pass 7 = .ok (.iload 4, 2) := by decide +kernel
theorem dL_pass_9 : decode cL_pass 9 = .ok (.aload_n 0, 1) := by decide +kernel
theorem dL_pass_10 : decode cL_pass 10 = .ok (.iconst 2, 1) := by decide +kernel
theorem dL_pass_11 : decode cL_pass 11 = .ok (.invokevirtual 41, 3) := by decide +kernel
theorem dL_pass_14 : decode cL_pass 14 = .ok (.if_icmp .ge 69, 3) := by decide +kernel
theorem dL_pass_17 : decode cL_pass 17 = .ok (.aload_n 0, 1) := by decide +kernel
theorem dL_pass_18 : decode cL_pass 18 = .ok (.iload 4, 2) := by decide +kernel
theorem dL_pass_20 : decode cL_pass 20 = .ok (.iload_n 1, 1) := by decide +kernel
theorem dL_pass_21 : decode cL_pass 21 = .ok (.invokevirtual 77, 3) := by decide +kernel
theorem dL_pass_24 : decode cL_pass 24 = .ok (.istore 5, 2) := by decide +kernel
theorem dL_pass_26 : decode cL_pass 26 = .ok (.iload_n 2, 1) := by decide +kernel
theorem dL_pass_27 : decode cL_pass 27 = .ok (.iload 5, 2) := by decide +kernel
theorem dL_pass_29 : decode cL_pass 29 = .ok (.iadd, 1) := by decide +kernel
theorem dL_pass_30 : decode cL_pass 30 = .ok (.istore_n 2, 1) := by decide +kernel
theorem dL_pass_31 : decode cL_pass 31 = .ok (.iload_n 3, 1) := by decide +kernel
theorem dL_pass_32 : decode cL_pass 32 = .ok (.aload_n 0, 1) := by decide +kernel
theorem dL_pass_33 : decode cL_pass 33 = .ok (.iload 4, 2) := by decide +kernel
theorem dL_pass_35 : decode cL_pass 35 = .ok (.bipush 7, 2) := by decide +kernel
theorem dL_pass_37 : decode cL_pass 37 = .ok (.invokevirtual 35, 3) := by decide +kernel
theorem dL_pass_40 : decode cL_pass 40 = .ok (.iadd, 1) := by decide +kernel
theorem dL_pass_41 : decode cL_pass 41 = .ok (.istore_n 3, 1) := by decide +kernel
theorem dL_pass_42 : decode cL_pass 42 = .ok (.iload 5, 2) := by decide +kernel
theorem dL_pass_44 : decode cL_pass 44 = .ok (.ifCond .lt 31, 3) := by decide +kernel
theorem dL_pass_47 : decode cL_pass 47 = .ok (.iload 5, 2) := by decide +kernel
theorem dL_pass_49 : decode cL_pass 49 = .ok (.aload_n 0, 1) := by decide +kernel
theorem dL_pass_50 : decode cL_pass 50 = .ok (.iload 4, 2) := by decide +kernel
theorem dL_pass_52 : decode cL_pass 52 = .ok (.iconst 3, 1) := by decide +kernel
theorem dL_pass_53 : decode cL_pass 53 = .ok (.invokevirtual 35, 3) := by decide +kernel
theorem dL_pass_56 : decode cL_pass 56 = .ok (.if_icmp .gt 19, 3) := by decide +kernel
theorem dL_pass_59 : decode cL_pass 59 = .ok (.aload_n 0, 1) := by decide +kernel
theorem dL_pass_60 : decode cL_pass 60 = .ok (.iload 4, 2) := by decide +kernel
theorem dL_pass_62 : decode cL_pass 62 = .ok (.iconst 2, 1) := by decide +kernel
theorem dL_pass_63 : decode cL_pass 63 = .ok (.invokevirtual 35, 3) := by decide +kernel
theorem dL_pass_66 : decode cL_pass 66 = .ok (.iload_n 1, 1) := by decide +kernel
theorem dL_pass_67 : decode cL_pass 67 = .ok (.if_icmp .le 10, 3) := by decide +kernel
theorem dL_pass_70 : decode cL_pass 70 = .ok (.iload 5, 2) := by decide +kernel
theorem dL_pass_72 : decode cL_pass 72 = .ok (.ifCond .le 5, 3) := by decide +kernel
theorem dL_pass_75 : decode cL_pass 75 = .ok (.iconst 0, 1) := by decide +kernel
theorem dL_pass_76 : decode cL_pass 76 = .ok (.ireturn, 1) := by decide +kernel
theorem dL_pass_77 : decode cL_pass 77 = .ok (.iinc 4 1, 3) := by decide +kernel
theorem dL_pass_80 : decode cL_pass 80 = .ok (.goto (-73), 3) := by decide +kernel
theorem dL_pass_83 : decode cL_pass 83 = .ok (.aload_n 0, 1) := by decide +kernel
theorem dL_pass_84 : decode cL_pass 84 = .ok (.iconst 0, 1) := by decide +kernel
theorem dL_pass_85 : decode cL_pass 85 = .ok (.invokevirtual 41, 3) := by decide +kernel
theorem dL_pass_88 : decode cL_pass 88 = .ok (.istore 4, 2) := by decide +kernel
theorem dL_pass_90 : decode cL_pass 90 = .ok (.aload_n 0, 1) := by decide +kernel
theorem dL_pass_91 : decode cL_pass 91 = .ok (.bipush 6, 2) := by decide +kernel
theorem dL_pass_93 : decode cL_pass 93 = .ok (.invokevirtual 41, 3) := by decide +kernel
theorem dL_pass_96 : decode cL_pass 96 = .ok (.istore 5, 2) := by decide +kernel
theorem dL_pass_98 : decode cL_pass 98 = .ok (.aload_n 0, 1) := by decide +kernel
theorem dL_pass_99 : decode cL_pass 99 = .ok (.iload_n 1, 1) := by decide +kernel
theorem dL_pass_100 : decode cL_pass 100 = .ok (.invokevirtual 80, 3) := by decide +kernel
theorem dL_pass_103 : decode cL_pass 103 = .ok (.istore 6, 2) := by decide +kernel
theorem dL_pass_105 : decode cL_pass 105 = .ok (.iload 6, 2) := by decide +kernel
theorem dL_pass_107 : decode cL_pass 107 = .ok (.iload_n 2, 1) := by decide +kernel
theorem dL_pass_108 : decode cL_pass 108 = .ok (.if_icmp .ne 51, 3) := by decide +kernel
theorem dL_pass_111 : decode cL_pass 111 = .ok (.aload_n 0, 1) := by decide +kernel
theorem dL_pass_112 : decode cL_pass 112 = .ok (.iconst 0, 1) := by decide +kernel
theorem dL_pass_113 : decode cL_pass 113 = .ok (.invokevirtual 41, 3) := by decide +kernel
theorem dL_pass_116 : decode cL_pass 116 = .ok (.iload 4, 2) := by decide +kernel
theorem dL_pass_118 : decode cL_pass 118 = .ok (.iload_n 1, 1) := by decide +kernel
theorem dL_pass_119 : decode cL_pass 119 = .ok (.iadd, 1) := by decide +kernel
theorem dL_pass_120 : decode cL_pass 120 = .ok (.if_icmp .ne 39, 3) := by decide +kernel
theorem dL_pass_123 : decode cL_pass 123 = .ok (.aload_n 0, 1) := by decide +kernel
theorem dL_pass_124 : decode cL_pass 124 = .ok (.bipush 8, 2) := by decide +kernel
theorem dL_pass_126 : decode cL_pass 126 = .ok (.invokevirtual 41, 3) := by decide +kernel
theorem dL_pass_129 : decode cL_pass 129 = .ok (.iload_n 3, 1) := by decide +kernel
theorem dL_pass_130 : decode cL_pass 130 = .ok (.iload_n 2, 1) := by decide +kernel
theorem dL_pass_131 : decode cL_pass 131 = .ok (.iadd, 1) := by decide +kernel
theorem dL_pass_132 : decode cL_pass 132 = .ok (.if_icmp .ne 27, 3) := by decide +kernel
theorem dL_pass_135 : decode cL_pass 135 = .ok (.aload_n 0, 1) := by decide +kernel
theorem dL_pass_136 : decode cL_pass 136 = .ok (.bipush 6, 2) := by decide +kernel
theorem dL_pass_138 : decode cL_pass 138 = .ok (.invokevirtual 41, 3) := by decide +kernel
theorem dL_pass_141 : decode cL_pass 141 = .ok (.iload 5, 2) := by decide +kernel
theorem dL_pass_143 : decode cL_pass 143 = .ok (.isub, 1) := by decide +kernel
theorem dL_pass_144 : decode cL_pass 144 = .ok (.iload_n 1, 1) := by decide +kernel
theorem dL_pass_145 : decode cL_pass 145 = .ok (.aload_n 0, 1) := by decide +kernel
theorem dL_pass_146 : decode cL_pass 146 = .ok (.bipush 16, 2) := by decide +kernel
theorem dL_pass_148 : decode cL_pass 148 = .ok (.invokevirtual 41, 3) := by decide +kernel
theorem dL_pass_151 : decode cL_pass 151 = .ok (.imul, 1) := by decide +kernel
theorem dL_pass_152 : decode cL_pass 152 = .ok (.if_icmp .gt 7, 3) := by decide +kernel
theorem dL_pass_155 : decode cL_pass 155 = .ok (.iconst 1, 1) := by decide +kernel
theorem dL_pass_156 : decode cL_pass 156 = .ok (.goto 4, 3) := by decide +kernel
theorem dL_pass_159 : decode cL_pass 159 = .ok (.iconst 0, 1) := by decide +kernel
theorem dL_pass_160 : decode cL_pass 160 = .ok (.ireturn, 1) := by decide +kernel
set_option maxRecDepth 20000 in
theorem ggL_stageIn_X9_stageIn : GoodIn wsL_stageIn wsX9_stageIn := goodIn_r _ [5, 6, 7, 8, 9, 10, 11, 12, 13, 14, 15, 16, 4, 17, 18, 19, 20, 21, 22, 23, 24, 25, 26, 27, 225, 226, 227, 228, 229, 230, 231, 232, 233, 234, 235, 236, 237, 238, 239, 240, 241, 242, 243, 244, 245, 246, 247, 248, 249, 250, 251, 252, 253, 254, 255, 256, 257] (by decide +kernel) (by decide +kernel)
set_option maxRecDepth 20000 in
theorem gL_stageIn_X9_stageIn : GoodIn wsL_stageIn (wsV RL 83 RX9 yX9_stageIn wsX9_stageIn) := goodIn_app (goodIn_of _ (by decide +kernel)) ggL_stageIn_X9_stageIn
set_option maxRecDepth 20000 in
theorem ggL_stageIn_X9_batch : GoodIn wsL_stageIn wsX9_batch := goodIn_r _ [31, 6, 7, 12, 32, 9, 8, 33, 34, 35, 36, 14, 15, 16, 4, 17, 18, 19, 20, 21, 37, 38, 39, 40, 41, 42, 43, 44, 45, 46, 47, 48, 49, 50, 51, 52, 53, 54, 23, 24, 25, 26, 27, 225, 226, 227, 228, 229, 230, 231, 232, 233, 234, 235, 236, 237, 238, 239, 240, 241, 242, 243, 244, 245, 246, 247, 248, 249, 250, 251, 252, 253, 254, 255, 256, 257] (by decide +kernel) (by decide +kernel)
set_option maxRecDepth 20000 in
theorem gL_stageIn_X9_batch : GoodIn wsL_stageIn (wsV RL 35 RX9 yX9_batch wsX9_batch) := goodIn_app (goodIn_of _ (by decide +kernel)) ggL_stageIn_X9_batch
set_option maxRecDepth 20000 in
theorem ggL_stageIn_X9_count : GoodIn wsL_stageIn wsX9_count := goodIn_r _ [58, 6, 7, 59, 60, 10, 61, 18, 62, 8, 33, 34, 35, 63, 64, 65, 66, 67, 68, 69, 70, 71, 72, 40, 73, 74, 75, 76, 77, 78, 42, 79, 80, 81, 82, 83, 84, 85, 86, 87, 88, 89, 90, 225, 226, 227, 228, 229, 230, 231, 232, 233, 234, 235, 236, 237, 238, 239, 240, 241, 251, 252, 253, 254, 255, 242, 243, 244, 245, 246, 247, 248, 249, 250, 258, 259, 260, 261, 262, 263, 264, 265, 266, 267, 268, 269, 270, 271, 272, 273, 274] (by decide +kernel) (by decide +kernel)
set_option maxRecDepth 20000 in
theorem gL_stageIn_X9_count : GoodIn wsL_stageIn (wsV RL 41 RX9 yX9_count wsX9_count) := goodIn_app (goodIn_of _ (by decide +kernel)) ggL_stageIn_X9_count
set_option maxRecDepth 20000 in
theorem ggL_stageIn_X9_set : GoodIn wsL_stageIn wsX9_set := goodIn_r _ [94, 6, 66, 67, 95, 96, 4, 97, 19, 20, 21, 98, 99, 100, 101, 102, 103, 104, 105, 106, 107, 108, 46, 109, 51, 49, 110, 48, 111, 112, 113, 114, 115, 116, 117, 118, 119, 120, 121, 122, 123, 124, 125, 126, 127, 128, 129, 130, 131, 132, 133, 134, 135, 136, 137, 40, 138, 74, 139, 140, 141, 142, 143, 144, 145, 42, 146, 147, 148, 83, 149, 85, 150, 151, 152, 90, 153, 154, 155, 156, 157, 158, 159, 160, 161, 162, 163, 164, 25, 165, 27, 166, 167, 168, 169, 170, 171, 172, 173, 174, 175, 176, 177, 225, 226, 227, 228, 229, 230, 231, 232, 233, 234, 235, 236, 237, 238, 239, 240, 241, 272, 273, 274, 251, 252, 253, 254, 255, 242, 243, 244, 245, 246, 247, 248, 249, 250, 258, 259, 260, 261, 262, 263, 264, 265, 266, 267, 268, 269, 270, 271, 256, 257, 275, 276, 277, 278, 279, 280] (by decide +kernel) (by decide +kernel)
set_option maxRecDepth 20000 in
theorem gL_stageIn_X9_set : GoodIn wsL_stageIn (wsV RL 86 RX9 yX9_set wsX9_set) := goodIn_app (goodIn_of _ (by decide +kernel)) ggL_stageIn_X9_set
set_option maxRecDepth 20000 in
theorem ggL_stageIn_X9_pass : GoodIn wsL_stageIn wsX9_pass := goodIn_r _ [181, 6, 60, 67, 19, 20, 4, 21, 98, 99, 100, 101, 102, 103, 104, 105, 106, 107, 108, 46, 109, 51, 49, 110, 48, 111, 112, 113, 114, 115, 116, 117, 118, 119, 120, 121, 122, 123, 124, 125, 126, 127, 128, 129, 130, 131, 132, 133, 134, 135, 136, 137, 40, 138, 74, 139, 140, 141, 142, 143, 144, 145, 42, 146, 147, 148, 83, 149, 85, 150, 151, 152, 90, 153, 154, 155, 156, 157, 158, 159, 160, 161, 162, 163, 164, 25, 165, 27, 166, 167, 168, 169, 170, 171, 172, 173, 174, 175, 176, 177, 182, 183, 184, 185, 186, 187, 188, 189, 190, 191, 192, 193, 194, 195, 50, 196, 197, 198, 199, 200, 201, 202, 203, 204, 205, 206, 207, 208, 209, 210, 211, 44, 45, 47, 52, 53, 54, 23, 24, 26, 212, 213, 214, 215, 216, 225, 226, 227, 228, 229, 230, 231, 232, 233, 234, 235, 236, 237, 238, 239, 240, 241, 272, 273, 274, 251, 252, 253, 254, 255, 242, 243, 244, 245, 246, 247, 248, 249, 250, 258, 259, 260, 261, 262, 263, 264, 265, 266, 267, 268, 269, 270, 271, 256, 257, 275, 276, 277, 278, 279, 280] (by decide +kernel) (by decide +kernel)
set_option maxRecDepth 20000 in
theorem gL_stageIn_X9_pass : GoodIn wsL_stageIn (wsV RL 80 RX9 yX9_pass wsX9_pass) := goodIn_app (goodIn_of _ (by decide +kernel)) ggL_stageIn_X9_pass
set_option maxRecDepth 20000 in
theorem ggL_stageIn_X9_undo : GoodIn wsL_stageIn wsX9_undo := goodIn_r _ [220, 67, 68, 6, 221, 222, 223, 101, 224, 103, 105, 104, 106, 107, 108, 46, 109, 51, 49, 110, 48, 111, 112, 113, 114, 115, 116, 117, 118, 119, 120, 121, 122, 123, 124, 125, 4, 126, 127, 128, 129, 130, 131, 132, 133, 134, 135, 136, 137, 40, 138, 74, 139, 140, 141, 142, 143, 144, 145, 42, 146, 147, 148, 83, 149, 85, 150, 151, 152, 90, 153, 154, 155, 156, 157, 158, 159, 160, 161, 162, 163, 164, 25, 165, 27, 166, 167, 168, 169, 170, 171, 172, 173, 174, 175, 176, 177, 225, 226, 227, 228, 229, 230, 231, 232, 233, 272, 273, 274, 234, 235, 236, 237, 238, 239, 240, 241, 251, 252, 253, 254, 255, 242, 243, 244, 245, 246, 247, 248, 249, 250, 258, 259, 260, 261, 262, 263, 264, 265, 266, 267, 268, 269, 270, 271, 256, 257, 275, 276, 277, 278, 279, 280] (by decide +kernel) (by decide +kernel)
set_option maxRecDepth 20000 in
theorem gL_stageIn_X9_undo : GoodIn wsL_stageIn (wsV RL 89 RX9 yX9_undo wsX9_undo) := goodIn_app (goodIn_of _ (by decide +kernel)) ggL_stageIn_X9_undo
theorem dL_stageIn_0 : decode cL_stageIn 0 = .ok (.aload_n 0, 1) := by decide +kernel
theorem dL_stageIn_1 : decode cL_stageIn 1 = .ok (.iload_n 1, 1) := by decide +kernel
theorem dL_stageIn_2 : decode cL_stageIn 2 = .ok (.iload_n 2, 1) := by decide +kernel
theorem dL_stageIn_3 : decode cL_stageIn 3 = .ok (.invokevirtual 83, 3) := by decide +kernel
theorem dL_stageIn_6 : decode cL_stageIn 6 = .ok (.istore_n 3, 1) := by decide +kernel
theorem dL_stageIn_7 : decode cL_stageIn 7 = .ok (.aload_n 0, 1) := by decide +kernel
theorem dL_stageIn_8 : decode cL_stageIn 8 = .ok (.iload_n 1, 1) := by decide +kernel
theorem dL_stageIn_9 : decode cL_stageIn 9 = .ok (.iconst 2, 1) := by decide +kernel
theorem dL_stageIn_10 : decode cL_stageIn 10 = .ok (.invokevirtual 35, 3) := by decide +kernel
theorem dL_stageIn_13 : decode cL_stageIn 13 = .ok (.istore 4, 2) := by decide +kernel
theorem dL_stageIn_15 : decode cL_stageIn 15 = .ok (.aload_n 0, 1) := by decide +kernel
theorem dL_stageIn_16 : decode cL_stageIn 16 = .ok (.iload_n 1, 1) := by decide +kernel
theorem dL_stageIn_17 : decode cL_stageIn 17 = .ok (.iconst 3, 1) := by decide +kernel
theorem dL_stageIn_18 : decode cL_stageIn 18 = .ok (.invokevirtual 35, 3) := by decide +kernel
theorem dL_stageIn_21 : decode cL_stageIn 21 = .ok (.ifCond .ne 15, 3) := by decide +kernel
theorem dL_stageIn_24 : decode cL_stageIn 24 = .ok (.iload_n 3, 1) := by decide +kernel
theorem dL_stageIn_25 : decode cL_stageIn 25 = .ok (.bipush (-5), 2) := by decide +kernel
theorem dL_stageIn_27 : decode cL_stageIn 27 = .ok (.if_icmp .ne 7, 3) := by decide +kernel
theorem dL_stageIn_30 : decode cL_stageIn 30 = .ok (.iconst 1, 1) := by decide +kernel
theorem dL_stageIn_31 : decode cL_stageIn 31 = .ok (.goto 4, 3) := by decide +kernel
theorem dL_stageIn_34 : decode cL_stageIn 34 = .ok (.iconst 0, 1) := by decide +kernel
theorem dL_stageIn_35 : decode cL_stageIn 35 = .ok (.ireturn, 1) := by decide +kernel
theorem dL_stageIn_36 : decode cL_stageIn 36 = .ok (.iload_n 3, 1) := by decide +kernel
theorem dL_stageIn_37 : decode cL_stageIn 37 = .ok (.bipush (-5), 2) := by decide +kernel
theorem dL_stageIn_39 : decode cL_stageIn 39 = .ok (.if_icmp .ne 36, 3) := by decide +kernel
theorem dL_stageIn_42 : decode cL_stageIn 42 = .ok (.aload_n 0, 1) := by decide +kernel
theorem dL_stageIn_43 : decode cL_stageIn 43 = .ok (.iload_n 1, 1) := by decide +kernel
theorem dL_stageIn_44 : decode cL_stageIn 44 = .ok (.bipush 10, 2) := by decide +kernel
theorem dL_stageIn_46 : decode cL_stageIn 46 = .ok (.invokevirtual 35, 3) := by decide +kernel
theorem dL_stageIn_49 : decode cL_stageIn 49 = .ok (.iload_n 2, 1) := by decide +kernel
theorem dL_stageIn_50 : decode cL_stageIn 50 = .ok (.if_icmp .ge 23, 3) := by decide +kernel
theorem dL_stageIn_53 : decode cL_stageIn 53 = .ok (.iload 4, 2) := by decide +kernel
theorem dL_stageIn_55 : decode cL_stageIn 55 = .ok (.iconst 1, 1) := by decide +kernel
theorem dL_stageIn_56 : decode cL_stageIn 56 = .ok (.if_icmp .eq 13, 3) := by decide +kernel
theorem dL_stageIn_59 : decode cL_stageIn 59 = .ok (.aload_n 0, 1) := by decide +kernel
theorem dL_stageIn_60 : decode cL_stageIn 60 = .ok (.iload_n 1, 1) := by decide +kernel
theorem dL_stageIn_61 : decode cL_stageIn 61 = .ok (.iload_n 2, 1) := by decide +kernel
theorem dL_stageIn_62 : decode cL_stageIn 62 = .ok (.invokevirtual 83, 3) := by decide +kernel
theorem dL_stageIn_65 : decode cL_stageIn 65 = .ok (.iload_n 3, 1) := by decide +kernel
theorem dL_stageIn_66 : decode cL_stageIn 66 = .ok (.if_icmp .ne 7, 3) := by decide +kernel
theorem dL_stageIn_69 : decode cL_stageIn 69 = .ok (.iconst 1, 1) := by decide +kernel
theorem dL_stageIn_70 : decode cL_stageIn 70 = .ok (.goto 4, 3) := by decide +kernel
theorem dL_stageIn_73 : decode cL_stageIn 73 = .ok (.iconst 0, 1) := by decide +kernel
theorem dL_stageIn_74 : decode cL_stageIn 74 = .ok (.ireturn, 1) := by decide +kernel
theorem dL_stageIn_75 : decode cL_stageIn 75 = .ok (.iload_n 3, 1) := by decide +kernel
theorem dL_stageIn_76 : decode cL_stageIn 76 = .ok (.ifCond .lt 41, 3) := by decide +kernel
theorem dL_stageIn_79 : decode cL_stageIn 79 = .ok (.iload_n 3, 1) := by decide +kernel
theorem dL_stageIn_80 : decode cL_stageIn 80 = .ok (.iload 4, 2) := by decide +kernel
theorem dL_stageIn_82 : decode cL_stageIn 82 = .ok (.if_icmp .ge 35, 3) := by decide +kernel
theorem dL_stageIn_85 : decode cL_stageIn 85 = .ok (.iload_n 3, 1) := by decide +kernel
theorem dL_stageIn_86 : decode cL_stageIn 86 = .ok (.ifCond .ne 7, 3) := by decide +kernel
theorem dL_stageIn_89 : decode cL_stageIn 89 = .ok (.iconst 1, 1) := by decide +kernel
theorem dL_stageIn_90 : decode cL_stageIn 90 = .ok (.goto 4, 3) := by decide +kernel
theorem dL_stageIn_93 : decode cL_stageIn 93 = .ok (.iconst 0, 1) := by decide +kernel
theorem dL_stageIn_94 : decode cL_stageIn 94 = .ok (.aload_n 0, 1) := by decide +kernel
theorem dL_stageIn_95 : decode cL_stageIn 95 = .ok (.iload_n 1, 1) := by decide +kernel
theorem dL_stageIn_96 : decode cL_stageIn 96 = .ok (.bipush 10, 2) := by decide +kernel
theorem dL_stageIn_98 : decode cL_stageIn 98 = .ok (.invokevirtual 35, 3) := by decide +kernel
theorem dL_stageIn_101 : decode cL_stageIn 101 = .ok (.iload_n 2, 1) := by decide +kernel
theorem dL_stageIn_102 : decode cL_stageIn 102 = .ok (.if_icmp .lt 7, 3) := by decide +kernel
theorem dL_stageIn_105 : decode cL_stageIn 105 = .ok (.iconst 1, 1) := by decide +kernel
theorem dL_stageIn_106 : decode cL_stageIn 106 = .ok (.goto 4, 3) := by decide +kernel
theorem dL_stageIn_109 : decode cL_stageIn 109 = .ok (.iconst 0, 1) := by decide +kernel
theorem dL_stageIn_110 : decode cL_stageIn 110 = .ok (.if_icmp .ne 7, 3) := by decide +kernel
theorem dL_stageIn_113 : decode cL_stageIn 113 = .ok (.iconst 1, 1) := by decide +kernel
theorem dL_stageIn_114 : decode cL_stageIn 114 = .ok (.goto 4, 3) := by decide +kernel
theorem dL_stageIn_117 : decode cL_stageIn 117 = .ok (.iconst 0, 1) := by decide +kernel
theorem dL_stageIn_118 : decode cL_stageIn 118 = .ok (.istore 5, 2) := by decide +kernel
theorem dL_stageIn_120 : decode cL_stageIn 120 = .ok (.iload_n 3, 1) := by decide +kernel
theorem dL_stageIn_121 : decode cL_stageIn 121 = .ok (.ifCond .eq 8, 3) := by decide +kernel
theorem dL_stageIn_124 : decode cL_stageIn 124 = .ok (.iload 5, 2) := by decide +kernel
theorem dL_stageIn_126 : decode cL_stageIn 126 = .ok (.ifCond .ne 6, 3) := by decide +kernel
theorem dL_stageIn_129 : decode cL_stageIn 129 = .ok (.iload 5, 2) := by decide +kernel
theorem dL_stageIn_131 : decode cL_stageIn 131 = .ok (.ireturn, 1) := by decide +kernel
theorem dL_stageIn_132 : decode cL_stageIn 132 = .ok (.aload_n 0, 1) := by decide +kernel
theorem dL_stageIn_133 : decode cL_stageIn 133 = .ok (.bipush 16, 2) := by decide +kernel
theorem dL_stageIn_135 : decode cL_stageIn 135 = .ok (.invokevirtual 41, 3) := by decide +kernel
theorem dL_stageIn_138 : decode cL_stageIn 138 = .ok (.istore 6, 2) := by decide +kernel
theorem dL_stageIn_140 : decode cL_stageIn 140 = .ok (.iload 6, 2) := by decide +kernel
theorem dL_stageIn_142 : decode cL_stageIn 142 = .ok (.ifCond .eq 14, 3) := by decide +kernel
theorem dL_stageIn_145 : decode cL_stageIn 145 = .ok (.aload_n 0, 1) := by decide +kernel
theorem dL_stageIn_146 : decode cL_stageIn 146 = .ok (.iconst 2, 1) := by decide +kernel
theorem dL_stageIn_147 : decode cL_stageIn 147 = .ok (.iconst 0, 1) := by decide +kernel
theorem dL_stageIn_148 : decode cL_stageIn 148 = .ok (.invokevirtual 86, 3) := by decide +kernel
theorem dL_stageIn_151 : decode cL_stageIn 151 = .ok (.iload 6, 2) := by decide +kernel
theorem dL_stageIn_153 : decode cL_stageIn 153 = .ok (.if_icmp .ne 7, 3) := by decide +kernel
theorem dL_stageIn_156 : decode cL_stageIn 156 = .ok (.iconst 1, 1) := by decide +kernel
theorem dL_stageIn_157 : decode cL_stageIn 157 = .ok (.goto 4, 3) := by decide +kernel
theorem dL_stageIn_160 : decode cL_stageIn 160 = .ok (.iconst 0, 1) := by decide +kernel
theorem dL_stageIn_161 : decode cL_stageIn 161 = .ok (.istore 7, 2) := by decide +kernel
theorem dL_stageIn_163 : decode cL_stageIn 163 = .ok (.iload 7, 2) := by decide +kernel
theorem dL_stageIn_165 : decode cL_stageIn 165 = .ok (.ifCond .eq 33, 3) := by decide +kernel
theorem dL_stageIn_168 : decode cL_stageIn 168 = .ok (.aload_n 0, 1) := by decide +kernel
theorem dL_stageIn_169 : decode cL_stageIn 169 = .ok (.iload_n 3, 1) := by decide +kernel
theorem dL_stageIn_170 : decode cL_stageIn 170 = .ok (.invokevirtual 80, 3) := by decide +kernel
theorem dL_stageIn_173 : decode cL_stageIn 173 = .ok (.ifCond .lt 25, 3) := by decide +kernel
theorem dL_stageIn_176 : decode cL_stageIn 176 = .ok (.aload_n 0, 1) := by decide +kernel
theorem dL_stageIn_177 : decode cL_stageIn 177 = .ok (.iload_n 1, 1) := by decide +kernel
theorem dL_stageIn_178 : decode cL_stageIn 178 = .ok (.bipush 10, 2) := by decide +kernel
theorem dL_stageIn_180 : decode cL_stageIn 180 = .ok (.invokevirtual 35, 3) := by decide +kernel
theorem dL_stageIn_183 : decode cL_stageIn 183 = .ok (.iload_n 2, 1) := by decide +kernel
theorem dL_stageIn_184 : decode cL_stageIn 184 = .ok (.if_icmp .lt 14, 3) := by decide +kernel
theorem dL_stageIn_187 : decode cL_stageIn 187 = .ok (.aload_n 0, 1) := by decide +kernel
theorem dL_stageIn_188 : decode cL_stageIn 188 = .ok (.invokevirtual 89, 3) := by decide +kernel
theorem dL_stageIn_191 : decode cL_stageIn 191 = .ok (.ifCond .lt 7, 3) := by decide +kernel
theorem dL_stageIn_194 : decode cL_stageIn 194 = .ok (.iconst 1, 1) := by decide +kernel
theorem dL_stageIn_195 : decode cL_stageIn 195 = .ok (.goto 4, 3) := by decide +kernel
theorem dL_stageIn_198 : decode cL_stageIn 198 = .ok (.iconst 0, 1) := by decide +kernel
theorem dL_stageIn_199 : decode cL_stageIn 199 = .ok (.istore 5, 2) := by decide +kernel
theorem dL_stageIn_201 : decode cL_stageIn 201 = .ok (.iload 5, 2) := by decide +kernel
theorem dL_stageIn_203 : decode cL_stageIn 203 = .ok (.ifCond .eq 40, 3) := by decide +kernel
theorem dL_stageIn_206 : decode cL_stageIn 206 = .ok (.iload_n 3, 1) := by decide +kernel
theorem dL_stageIn_207 : decode cL_stageIn 207 = .ok (.iconst 1, 1) := by decide +kernel
theorem dL_stageIn_208 : decode cL_stageIn 208 = .ok (.if_icmp .eq 31, 3) := by decide +kernel
theorem dL_stageIn_211 : decode cL_stageIn 211 = .ok (.aload_n 0, 1) := by decide +kernel
theorem dL_stageIn_212 : decode cL_stageIn 212 = .ok (.iload_n 3, 1) := by decide +kernel
theorem dL_stageIn_213 : decode cL_stageIn 213 = .ok (.iconst 1, 1) := by decide +kernel
theorem dL_stageIn_214 : decode cL_stageIn 214 = .ok (.isub, 1) := by decide +kernel
theorem dL_stageIn_215 : decode cL_stageIn 215 = .ok (.invokevirtual 80, 3) := by decide +kernel
theorem dL_stageIn_218 : decode cL_stageIn 218 = .ok (.ifCond .lt 25, 3) := by decide +kernel
theorem dL_stageIn_221 : decode cL_stageIn 221 = .ok (.aload_n 0, 1) := by decide +kernel
theorem dL_stageIn_222 : decode cL_stageIn 222 = .ok (.iload_n 1, 1) := by decide +kernel
theorem dL_stageIn_223 : decode cL_stageIn 223 = .ok (.bipush 10, 2) := by decide +kernel
theorem dL_stageIn_225 : decode cL_stageIn 225 = .ok (.invokevirtual 35, 3) := by decide +kernel
theorem dL_stageIn_228 : decode cL_stageIn 228 = .ok (.iload_n 2, 1) := by decide +kernel
theorem dL_stageIn_229 : decode cL_stageIn 229 = .ok (.if_icmp .ge 14, 3) := by decide +kernel
theorem dL_stageIn_232 : decode cL_stageIn 232 = .ok (.aload_n 0, 1) := by decide +kernel
theorem dL_stageIn_233 : decode cL_stageIn 233 = .ok (.invokevirtual 89, 3) := by decide +kernel
theorem dL_stageIn_236 : decode cL_stageIn 236 = .ok (.ifCond .lt 7, 3) := by decide +kernel
theorem dL_stageIn_239 : decode cL_stageIn 239 = .ok (.iconst 1, 1) := by decide +kernel
theorem dL_stageIn_240 : decode cL_stageIn 240 = .ok (.goto 4, 3) := by decide +kernel
theorem dL_stageIn_243 : decode cL_stageIn 243 = .ok (.iconst 0, 1) := by decide +kernel
theorem dL_stageIn_244 : decode cL_stageIn 244 = .ok (.istore 5, 2) := by decide +kernel
theorem dL_stageIn_246 : decode cL_stageIn 246 = .ok (.iload 5, 2) := by decide +kernel
theorem dL_stageIn_248 : decode cL_stageIn 248 = .ok (.ifCond .eq 41, 3) := by decide +kernel
theorem dL_stageIn_251 : decode cL_stageIn 251 = .ok (.iload 6, 2) := by decide +kernel
theorem dL_stageIn_253 : decode cL_stageIn 253 = .ok (.ifCond .eq 10, 3) := by decide +kernel
theorem dL_stageIn_256 : decode cL_stageIn 256 = .ok (.aload_n 0, 1) := by decide +kernel
theorem dL_stageIn_257 : decode cL_stageIn 257 = .ok (.invokevirtual 89, 3) := by decide +kernel
theorem dL_stageIn_260 : decode cL_stageIn 260 = .ok (.ifCond .lt 29, 3) := by decide +kernel
theorem dL_stageIn_263 : decode cL_stageIn 263 = .ok (.aload_n 0, 1) := by decide +kernel
theorem dL_stageIn_264 : decode cL_stageIn 264 = .ok (.bipush 16, 2) := by decide +kernel
theorem dL_stageIn_266 : decode cL_stageIn 266 = .ok (.invokevirtual 41, 3) := by decide +kernel
theorem dL_stageIn_269 : decode cL_stageIn 269 = .ok (.iload 6, 2) := by decide +kernel
theorem dL_stageIn_271 : decode cL_stageIn 271 = .ok (.if_icmp .ne 18, 3) := by decide +kernel
theorem dL_stageIn_274 : decode cL_stageIn 274 = .ok (.aload_n 0, 1) := by decide +kernel
theorem dL_stageIn_275 : decode cL_stageIn 275 = .ok (.iload_n 1, 1) := by decide +kernel
theorem dL_stageIn_276 : decode cL_stageIn 276 = .ok (.iconst 2, 1) := by decide +kernel
theorem dL_stageIn_277 : decode cL_stageIn 277 = .ok (.invokevirtual 35, 3) := by decide +kernel
theorem dL_stageIn_280 : decode cL_stageIn 280 = .ok (.iload 4, 2) := by decide +kernel
theorem dL_stageIn_282 : decode cL_stageIn 282 = .ok (.if_icmp .ne 7, 3) := by decide +kernel
theorem dL_stageIn_285 : decode cL_stageIn 285 = .ok (.iconst 1, 1) := by decide +kernel
theorem dL_stageIn_286 : decode cL_stageIn 286 = .ok (.goto 4, 3) := by decide +kernel
theorem dL_stageIn_289 : decode cL_stageIn 289 = .ok (.iconst 0, 1) := by decide +kernel
theorem dL_stageIn_290 : decode cL_stageIn 290 = .ok (.ireturn, 1) := by decide +kernel
