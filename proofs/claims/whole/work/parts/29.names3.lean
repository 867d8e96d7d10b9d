def wsLy_r1 : List Cond := [Cond.classLink RL 30 RY1, Cond.instantiable RY1 8, Cond.initialized RY1, Cond.arrayClass .long, Cond.initialized RL, Cond.methodLink RL 32 yY1_init, Cond.instanceMethod yY1_init, Cond.code yY1_init cY1_init 3 none, Cond.methodLink RY1 1 objectInit, Cond.instanceMethod objectInit, Cond.code objectInit ⟨#[0xb1]⟩ 1 none, Cond.arrayClass .int, Cond.fieldLink RY1 7 "CoefTurnsModel" "plane" "[I", Cond.fieldLink RY1 13 "CoefTurnsModel" "kept" "[I", Cond.fieldLink RY1 16 "CoefTurnsModel" "moved" "[I", Cond.fieldLink RY1 23 "CoefTurnsModel" "w" "I", Cond.fieldLink RY1 27 "CoefTurnsModel" "h" "I", Cond.fieldLink RY1 30 "CoefTurnsModel" "keptW" "I", Cond.fieldLink RY1 33 "CoefTurnsModel" "keptH" "I", Cond.methodLink RY1 19 yY1_near, Cond.static yY1_near, Cond.code yY1_near cY1_near 1 (some .int), Cond.methodLink RL 36 yY1_put, Cond.instanceMethod yY1_put]
def wsLy_r2 : List Cond := [Cond.selects RY1 yY1_put yY1_put, Cond.code yY1_put cY1_put 5 none, Cond.fieldLink RY1 36 "CoefTurnsModel" "thrown" "I", Cond.methodLink RY1 39 yY1_isBlock, Cond.instanceMethod yY1_isBlock, Cond.selects RY1 yY1_isBlock yY1_isBlock, Cond.code yY1_isBlock cY1_isBlock 3 (some .boolean), Cond.methodLink RY1 43 yY1_isPlace, Cond.static yY1_isPlace, Cond.code yY1_isPlace cY1_isPlace 1 (some .boolean), Cond.methodLink RY1 47 yY1_block, Cond.static yY1_block, Cond.code yY1_block cY1_block 2 (some .int), Cond.methodLink RL 37 yY1_thrown, Cond.instanceMethod yY1_thrown, Cond.selects RY1 yY1_thrown yY1_thrown, Cond.code yY1_thrown cY1_thrown 1 (some .int), Cond.methodLink RL 45 yY1_fill, Cond.instanceMethod yY1_fill, Cond.selects RY1 yY1_fill yY1_fill, Cond.code yY1_fill cY1_fill 8 none, Cond.constantLong RY1 51 (40503), Cond.constantLong RY1 53 (4294967295), Cond.constantLong RY1 55 (2654435761)]
def wsLy_r3 : List Cond := [Cond.constantLong RY1 57 (2047), Cond.methodLink RL 49 yY1_transpose, Cond.instanceMethod yY1_transpose, Cond.selects RY1 yY1_transpose yY1_transpose, Cond.code yY1_transpose cY1_transpose 1 none, Cond.methodLink RY1 63 yY1_transposeAll, Cond.instanceMethod yY1_transposeAll, Cond.selects RY1 yY1_transposeAll yY1_transposeAll, Cond.code yY1_transposeAll cY1_transposeAll 4 none, Cond.methodLink RY1 59 yY1_become, Cond.instanceMethod yY1_become, Cond.selects RY1 yY1_become yY1_become, Cond.code yY1_become cY1_become 4 none, Cond.methodLink RL 53 yY1_mirror, Cond.instanceMethod yY1_mirror, Cond.selects RY1 yY1_mirror yY1_mirror, Cond.code yY1_mirror cY1_mirror 1 none, Cond.methodLink RY1 66 yY1_mirrorAll, Cond.instanceMethod yY1_mirrorAll, Cond.selects RY1 yY1_mirrorAll yY1_mirrorAll, Cond.code yY1_mirrorAll cY1_mirrorAll 5 none, Cond.methodLink RL 57 yY1_flip, Cond.instanceMethod yY1_flip, Cond.selects RY1 yY1_flip yY1_flip]
def wsLy_r4 : List Cond := [Cond.code yY1_flip cY1_flip 1 none, Cond.methodLink RY1 69 yY1_flipAll, Cond.instanceMethod yY1_flipAll, Cond.selects RY1 yY1_flipAll yY1_flipAll, Cond.code yY1_flipAll cY1_flipAll 5 none, Cond.methodLink RL 61 yY1_turn, Cond.instanceMethod yY1_turn, Cond.selects RY1 yY1_turn yY1_turn, Cond.code yY1_turn cY1_turn 4 none, Cond.methodLink RL 66 yY1_crop, Cond.instanceMethod yY1_crop, Cond.selects RY1 yY1_crop yY1_crop, Cond.code yY1_crop cY1_crop 8 (some .boolean), Cond.methodLink RL 70 yY1_swap, Cond.instanceMethod yY1_swap, Cond.selects RY1 yY1_swap yY1_swap, Cond.code yY1_swap cY1_swap 7 (some .boolean), Cond.methodLink RL 74 yY1_keep, Cond.instanceMethod yY1_keep, Cond.selects RY1 yY1_keep yY1_keep, Cond.code yY1_keep cY1_keep 2 none, Cond.methodLink RL 78 yY1_restore, Cond.instanceMethod yY1_restore, Cond.selects RY1 yY1_restore yY1_restore]
def wsLy_r5 : List Cond := [Cond.code yY1_restore cY1_restore 2 none, Cond.methodLink RL 82 yY1_differ, Cond.instanceMethod yY1_differ, Cond.selects RY1 yY1_differ yY1_differ, Cond.code yY1_differ cY1_differ 5 (some .int), Cond.methodLink RL 87 yY1_at, Cond.instanceMethod yY1_at, Cond.selects RY1 yY1_at yY1_at, Cond.code yY1_at cY1_at 4 (some .int), Cond.methodLink RL 92 yY1_four, Cond.instanceMethod yY1_four, Cond.selects RY1 yY1_four yY1_four, Cond.code yY1_four cY1_four 8 (some .long), Cond.constantLong RY1 72 (65535), Cond.methodLink RL 93 yL_sum, Cond.static yL_sum, Cond.codeWith yL_sum cL_sum 4 (some .int) [(0, 8, 11, 13)], Cond.classLink RL 13 "java/lang/IndexOutOfBoundsException", Cond.methodLink RL 17 yX0_sum, Cond.instanceMethod yX0_sum, Cond.selects RX0 yX0_sum yX0_sum, Cond.initialized RX0, Cond.code yX0_sum cX0_sum 8 (some .long), Cond.classLink RX0 41 "java/lang/IndexOutOfBoundsException"]
def wsLy_r6 : List Cond := [Cond.initialized "java/lang/IndexOutOfBoundsException", Cond.fieldLink RX0 17 "CoefTurns" "height" "I", Cond.fieldLink RX0 13 "CoefTurns" "width" "I", Cond.fieldLink RX0 26 "CoefTurns" "cells" "[I", Cond.methodLink RX0 37 yX0_isPlace, Cond.static yX0_isPlace, Cond.code yX0_isPlace cX0_isPlace 1 (some .boolean), Cond.methodLink RX0 53 yX0_blockStart, Cond.static yX0_blockStart, Cond.code yX0_blockStart cX0_blockStart 2 (some .int), Cond.methodLink RL 96 yY1_sum, Cond.instanceMethod yY1_sum, Cond.selects RY1 yY1_sum yY1_sum, Cond.code yY1_sum cY1_sum 6 (some .long), Cond.methodLink RL 101 yY1_look, Cond.instanceMethod yY1_look, Cond.selects RY1 yY1_look yY1_look, Cond.code yY1_look cY1_look 2 (some .int), Cond.methodLink RY1 74 yY1_lookAll, Cond.instanceMethod yY1_lookAll, Cond.selects RY1 yY1_lookAll yY1_lookAll, Cond.code yY1_lookAll cY1_lookAll 8 (some .int)]
def wsLy0 : List Cond := (wsLy_r1 ++ (wsLy_r2 ++ (wsLy_r3 ++ (wsLy_r4 ++ (wsLy_r5 ++ wsLy_r6))))) ++ wsY10
def wsLy : List Cond := wsLy0 ++ wsX00 ++ (vx_atS RX0 45 "java/lang/IndexOutOfBoundsException" ["java/lang/RuntimeException", "java/lang/Exception"]).filter goodWord
set_option maxRecDepth 20000 in
theorem wsLy_in0 : ∀ w ∈ wsLy0, w ∈ lw_tbl := fun w h => (goodIn_p wsLy0 [279, 33, 283, 316, 320, 323, 326, 312, 330, 338, 342, 346, 350, 354, 358, 362, 366, 370, 374, 378, 382, 386, 390, 394, 273, 151, 69, 399, 403, 407] (by decide +kernel) (by decide +kernel) w h).1
theorem wsLy_in : ∀ w ∈ wsLy, w ∈ lw_tbl := fun w h => (List.mem_append.mp h).elim (fun h => (List.mem_append.mp h).elim (wsLy_in0 w) (inX0 w)) (wsL_law_x0 w)
theorem inY1 : ∀ w ∈ wsY10, w ∈ lw_tbl := fun w h => wsLy_in0 w (List.mem_append_right _ h)
set_option maxRecDepth 20000 in
theorem ggL_law_Y1_init : GoodIn wsLy wsY1_init := goodIn_r _ [7, 8, 9, 10, 11, 12, 13, 14, 15, 16, 17, 18, 19, 20, 2, 21, 142, 143, 144, 145, 146, 147, 148, 149] (by decide +kernel) (by decide +kernel)
set_option maxRecDepth 20000 in
theorem gL_law_Y1_init : GoodIn wsLy wsY1_init := ggL_law_Y1_init
set_option maxRecDepth 20000 in
theorem ggL_law_Y1_put : GoodIn wsLy wsY1_put := goodIn_r _ [25, 26, 12, 27, 28, 29, 2, 30, 15, 16, 31, 32, 33, 34, 35, 36, 142, 143, 144, 145, 146, 147, 148, 149] (by decide +kernel) (by decide +kernel)
set_option maxRecDepth 20000 in
theorem gL_law_Y1_put : GoodIn wsLy (wsV RL 36 RY1 yY1_put wsY1_put) := goodIn_app (goodIn_of _ (by decide +kernel)) ggL_law_Y1_put
set_option maxRecDepth 20000 in
theorem ggL_law_Y1_thrown : GoodIn wsLy wsY1_thrown := goodIn_r _ [40, 26, 142, 143, 144, 145, 146, 147, 148, 149] (by decide +kernel) (by decide +kernel)
set_option maxRecDepth 20000 in
theorem gL_law_Y1_thrown : GoodIn wsLy (wsV RL 37 RY1 yY1_thrown wsY1_thrown) := goodIn_app (goodIn_of _ (by decide +kernel)) ggL_law_Y1_thrown
set_option maxRecDepth 20000 in
theorem ggL_law_Y1_fill : GoodIn wsLy wsY1_fill := goodIn_r _ [44, 26, 16, 15, 45, 46, 47, 12, 48, 34, 35, 2, 36, 142, 143, 144, 145, 146, 147, 148, 149] (by decide +kernel) (by decide +kernel)
set_option maxRecDepth 20000 in
theorem gL_law_Y1_fill : GoodIn wsLy (wsV RL 45 RY1 yY1_fill wsY1_fill) := goodIn_app (goodIn_of _ (by decide +kernel)) ggL_law_Y1_fill
set_option maxRecDepth 20000 in
theorem ggL_law_Y1_transpose : GoodIn wsLy wsY1_transpose := goodIn_r _ [52, 26, 53, 54, 55, 2, 56, 15, 16, 14, 12, 34, 35, 36, 57, 58, 59, 60, 142, 143, 144, 145, 146, 147, 148, 149] (by decide +kernel) (by decide +kernel)
set_option maxRecDepth 20000 in
theorem gL_law_Y1_transpose : GoodIn wsLy (wsV RL 49 RY1 yY1_transpose wsY1_transpose) := goodIn_app (goodIn_of _ (by decide +kernel)) ggL_law_Y1_transpose
set_option maxRecDepth 20000 in
theorem ggL_law_Y1_mirror : GoodIn wsLy wsY1_mirror := goodIn_r _ [64, 26, 65, 66, 67, 2, 68, 16, 15, 12, 14, 34, 35, 36, 57, 58, 59, 60, 142, 143, 144, 145, 146, 147, 148, 149] (by decide +kernel) (by decide +kernel)
set_option maxRecDepth 20000 in
theorem gL_law_Y1_mirror : GoodIn wsLy (wsV RL 53 RY1 yY1_mirror wsY1_mirror) := goodIn_app (goodIn_of _ (by decide +kernel)) ggL_law_Y1_mirror
set_option maxRecDepth 20000 in
theorem ggL_law_Y1_flip : GoodIn wsLy wsY1_flip := goodIn_r _ [72, 26, 73, 74, 75, 2, 76, 16, 15, 12, 14, 34, 35, 36, 57, 58, 59, 60, 142, 143, 144, 145, 146, 147, 148, 149] (by decide +kernel) (by decide +kernel)
set_option maxRecDepth 20000 in
theorem gL_law_Y1_flip : GoodIn wsLy (wsV RL 57 RY1 yY1_flip wsY1_flip) := goodIn_app (goodIn_of _ (by decide +kernel)) ggL_law_Y1_flip
set_option maxRecDepth 20000 in
theorem ggL_law_Y1_turn : GoodIn wsLy wsY1_turn := goodIn_r _ [80, 26, 53, 54, 55, 2, 56, 15, 16, 14, 12, 34, 35, 36, 57, 58, 59, 60, 65, 66, 67, 68, 142, 143, 144, 145, 146, 147, 148, 149] (by decide +kernel) (by decide +kernel)
set_option maxRecDepth 20000 in
theorem gL_law_Y1_turn : GoodIn wsLy (wsV RL 61 RY1 yY1_turn wsY1_turn) := goodIn_app (goodIn_of _ (by decide +kernel)) ggL_law_Y1_turn
set_option maxRecDepth 20000 in
theorem ggL_law_Y1_crop : GoodIn wsLy wsY1_crop := goodIn_r _ [84, 26, 15, 16, 14, 12, 34, 35, 2, 36, 57, 58, 59, 60, 142, 143, 144, 145, 146, 147, 148, 149] (by decide +kernel) (by decide +kernel)
set_option maxRecDepth 20000 in
theorem gL_law_Y1_crop : GoodIn wsLy (wsV RL 66 RY1 yY1_crop wsY1_crop) := goodIn_app (goodIn_of _ (by decide +kernel)) ggL_law_Y1_crop
set_option maxRecDepth 20000 in
theorem ggL_law_Y1_swap : GoodIn wsLy wsY1_swap := goodIn_r _ [88, 26, 12, 27, 28, 29, 2, 30, 15, 16, 34, 35, 36, 142, 143, 144, 145, 146, 147, 148, 149] (by decide +kernel) (by decide +kernel)
set_option maxRecDepth 20000 in
theorem gL_law_Y1_swap : GoodIn wsLy (wsV RL 70 RY1 yY1_swap wsY1_swap) := goodIn_app (goodIn_of _ (by decide +kernel)) ggL_law_Y1_swap
set_option maxRecDepth 20000 in
theorem ggL_law_Y1_keep : GoodIn wsLy wsY1_keep := goodIn_r _ [92, 26, 15, 17, 16, 18, 13, 12, 142, 143, 144, 145, 146, 147, 148, 149] (by decide +kernel) (by decide +kernel)
set_option maxRecDepth 20000 in
theorem gL_law_Y1_keep : GoodIn wsLy (wsV RL 74 RY1 yY1_keep wsY1_keep) := goodIn_app (goodIn_of _ (by decide +kernel)) ggL_law_Y1_keep
set_option maxRecDepth 20000 in
theorem ggL_law_Y1_restore : GoodIn wsLy wsY1_restore := goodIn_r _ [96, 26, 17, 15, 18, 16, 12, 13, 142, 143, 144, 145, 146, 147, 148, 149] (by decide +kernel) (by decide +kernel)
set_option maxRecDepth 20000 in
theorem gL_law_Y1_restore : GoodIn wsLy (wsV RL 78 RY1 yY1_restore wsY1_restore) := goodIn_app (goodIn_of _ (by decide +kernel)) ggL_law_Y1_restore
set_option maxRecDepth 20000 in
theorem ggL_law_Y1_differ : GoodIn wsLy wsY1_differ := goodIn_r _ [100, 26, 15, 17, 16, 18, 12, 13, 34, 35, 2, 36, 142, 143, 144, 145, 146, 147, 148, 149] (by decide +kernel) (by decide +kernel)
set_option maxRecDepth 20000 in
theorem gL_law_Y1_differ : GoodIn wsLy (wsV RL 82 RY1 yY1_differ wsY1_differ) := goodIn_app (goodIn_of _ (by decide +kernel)) ggL_law_Y1_differ
set_option maxRecDepth 20000 in
theorem ggL_law_Y1_at : GoodIn wsLy wsY1_at := goodIn_r _ [104, 26, 12, 27, 28, 29, 2, 30, 15, 16, 31, 32, 33, 34, 35, 36, 142, 143, 144, 145, 146, 147, 148, 149] (by decide +kernel) (by decide +kernel)
set_option maxRecDepth 20000 in
theorem gL_law_Y1_at : GoodIn wsLy (wsV RL 87 RY1 yY1_at wsY1_at) := goodIn_app (goodIn_of _ (by decide +kernel)) ggL_law_Y1_at
set_option maxRecDepth 20000 in
theorem ggL_law_Y1_four : GoodIn wsLy wsY1_four := goodIn_r _ [108, 26, 12, 109, 27, 28, 29, 2, 30, 15, 16, 34, 35, 36, 142, 143, 144, 145, 146, 147, 148, 149] (by decide +kernel) (by decide +kernel)
set_option maxRecDepth 20000 in
theorem gL_law_Y1_four : GoodIn wsLy (wsV RL 92 RY1 yY1_four wsY1_four) := goodIn_app (goodIn_of _ (by decide +kernel)) ggL_law_Y1_four
set_option maxRecDepth 20000 in
theorem ggL_law_L_sum : GoodIn wsLy wsL_sum := goodIn_ca (goodIn_r _ [112, 113, 114, 115, 116, 117, 118, 119, 120, 121, 122, 123, 124, 125, 126, 127, 128, 129, 150, 151, 152, 153, 154, 155] (by decide +kernel) (by decide +kernel)) (goodIn_sub (fun _ h => List.mem_append_right _ h) (by decide +kernel))
set_option maxRecDepth 20000 in
theorem gL_law_L_sum : GoodIn wsLy (va_wsS RL 93 yL_sum wsL_sum) := goodIn_app (goodIn_of _ (by decide +kernel)) ggL_law_L_sum
set_option maxRecDepth 20000 in
theorem ggL_law_Y1_sum : GoodIn wsLy wsY1_sum := goodIn_r _ [133, 26, 16, 15, 12, 31, 32, 2, 33, 34, 35, 36, 142, 143, 144, 145, 146, 147, 148, 149] (by decide +kernel) (by decide +kernel)
set_option maxRecDepth 20000 in
theorem gL_law_Y1_sum : GoodIn wsLy (wsV RL 96 RY1 yY1_sum wsY1_sum) := goodIn_app (goodIn_of _ (by decide +kernel)) ggL_law_Y1_sum
set_option maxRecDepth 20000 in
theorem ggL_law_Y1_look : GoodIn wsLy wsY1_look := goodIn_r _ [137, 26, 15, 16, 17, 18, 138, 139, 140, 2, 141, 12, 34, 35, 36, 142, 143, 144, 145, 146, 147, 148, 149] (by decide +kernel) (by decide +kernel)
set_option maxRecDepth 20000 in
theorem gL_law_Y1_look : GoodIn wsLy (wsV RL 101 RY1 yY1_look wsY1_look) := goodIn_app (goodIn_of _ (by decide +kernel)) ggL_law_Y1_look
