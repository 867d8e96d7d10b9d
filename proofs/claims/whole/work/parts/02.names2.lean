/-! my names: the reference (Y1), CoefTurns.sum and the law's sum, which the printed names lack: written by a program of mine -/
def RY1 : String := "CoefTurnsModel"
def TY1 : u_T := fun k => match k with
  | 0 => ("CoefTurnsModel", "thrown", "I", false)
  | 1 => ("CoefTurnsModel", "w", "I", false)
  | 2 => ("CoefTurnsModel", "h", "I", false)
  | 3 => ("CoefTurnsModel", "keptW", "I", false)
  | 4 => ("CoefTurnsModel", "keptH", "I", false)
  | 5 => ("CoefTurnsModel", "plane", "[I", true)
  | 6 => ("CoefTurnsModel", "kept", "[I", true)
  | _ => ("CoefTurnsModel", "moved", "[I", true)
def tyY1 : Nat → FieldType := fun k => match k with
  | 0 => .int
  | 1 => .int
  | 2 => .int
  | 3 => .int
  | 4 => .int
  | 5 => .array .int
  | 6 => .array .int
  | _ => .array .int
abbrev wsY10 : List Cond := u_ws RY1 TY1 8
theorem nmY1 : ∀ a, a < 8 → ∀ b, b < 8 → a ≠ b → (TY1 a).2.1 ≠ (TY1 b).2.1 := by decide +kernel
theorem tyY1_ok : ∀ k, k < 8 → parseFieldDescriptor (TY1 k).2.2.1 = some (tyY1 k) := by decide +kernel
abbrev vwCm : List vw_C := [(RX0, TX0, 6), (RY1, TY1, 8)]
abbrev cY1_init : ByteArray := prog_3_method_1_code
def yY1_init : MethodName := ⟨RY1, "<init>", "(II)V"⟩
abbrev cY1_thrown : ByteArray := prog_3_method_2_code
def yY1_thrown : MethodName := ⟨RY1, "thrown", "()I"⟩
abbrev cY1_near : ByteArray := prog_3_method_3_code
def yY1_near : MethodName := ⟨RY1, "near", "(I)I"⟩
abbrev cY1_isBlock : ByteArray := prog_3_method_4_code
def yY1_isBlock : MethodName := ⟨RY1, "isBlock", "(II)Z"⟩
abbrev cY1_isPlace : ByteArray := prog_3_method_5_code
def yY1_isPlace : MethodName := ⟨RY1, "isPlace", "(I)Z"⟩
abbrev cY1_block : ByteArray := prog_3_method_6_code
def yY1_block : MethodName := ⟨RY1, "block", "(II)I"⟩
abbrev cY1_put : ByteArray := prog_3_method_7_code
def yY1_put : MethodName := ⟨RY1, "put", "(IIII)V"⟩
abbrev cY1_fill : ByteArray := prog_3_method_8_code
def yY1_fill : MethodName := ⟨RY1, "fill", "(I)V"⟩
abbrev cY1_become : ByteArray := prog_3_method_9_code
def yY1_become : MethodName := ⟨RY1, "become", "(II)V"⟩
abbrev cY1_transposeAll : ByteArray := prog_3_method_10_code
def yY1_transposeAll : MethodName := ⟨RY1, "transposeAll", "()V"⟩
abbrev cY1_mirrorAll : ByteArray := prog_3_method_11_code
def yY1_mirrorAll : MethodName := ⟨RY1, "mirrorAll", "()V"⟩
abbrev cY1_flipAll : ByteArray := prog_3_method_12_code
def yY1_flipAll : MethodName := ⟨RY1, "flipAll", "()V"⟩
abbrev cY1_transpose : ByteArray := prog_3_method_13_code
def yY1_transpose : MethodName := ⟨RY1, "transpose", "()V"⟩
abbrev cY1_mirror : ByteArray := prog_3_method_14_code
def yY1_mirror : MethodName := ⟨RY1, "mirror", "()V"⟩
abbrev cY1_flip : ByteArray := prog_3_method_15_code
def yY1_flip : MethodName := ⟨RY1, "flip", "()V"⟩
abbrev cY1_turn : ByteArray := prog_3_method_16_code
def yY1_turn : MethodName := ⟨RY1, "turn", "(I)V"⟩
abbrev cY1_crop : ByteArray := prog_3_method_17_code
def yY1_crop : MethodName := ⟨RY1, "crop", "(IIII)Z"⟩
abbrev cY1_swap : ByteArray := prog_3_method_18_code
def yY1_swap : MethodName := ⟨RY1, "swap", "(IIII)Z"⟩
abbrev cY1_keep : ByteArray := prog_3_method_19_code
def yY1_keep : MethodName := ⟨RY1, "keep", "()V"⟩
abbrev cY1_restore : ByteArray := prog_3_method_20_code
def yY1_restore : MethodName := ⟨RY1, "restore", "()V"⟩
abbrev cY1_differ : ByteArray := prog_3_method_21_code
def yY1_differ : MethodName := ⟨RY1, "differ", "()I"⟩
abbrev cY1_at : ByteArray := prog_3_method_22_code
def yY1_at : MethodName := ⟨RY1, "at", "(III)I"⟩
abbrev cY1_four : ByteArray := prog_3_method_23_code
def yY1_four : MethodName := ⟨RY1, "four", "(IIII)J"⟩
abbrev cY1_sum : ByteArray := prog_3_method_24_code
def yY1_sum : MethodName := ⟨RY1, "sum", "(I)J"⟩
abbrev cY1_lookAll : ByteArray := prog_3_method_25_code
def yY1_lookAll : MethodName := ⟨RY1, "lookAll", "(Z)I"⟩
abbrev cY1_look : ByteArray := prog_3_method_26_code
def yY1_look : MethodName := ⟨RY1, "look", "(I)I"⟩
abbrev cX0_sum : ByteArray := prog_1_method_15_code
def yX0_sum : MethodName := ⟨RX0, "sum", "(I)J"⟩
abbrev cL_sum : ByteArray := method_4_code
def yL_sum : MethodName := ⟨RL, "sum", "(LCoefTurns;I[J)I"⟩
def wsY1_near : List Cond := .code yY1_near cY1_near 1 (some .int) :: ([])
def wsY1_init : List Cond := .code yY1_init cY1_init 3 none :: ([.methodLink RY1 1 objectInit, .instanceMethod objectInit, .code objectInit ⟨#[0xb1]⟩ 1 none, .arrayClass .int, .fieldLink RY1 7 "CoefTurnsModel" "plane" "[I", .fieldLink RY1 13 "CoefTurnsModel" "kept" "[I", .fieldLink RY1 16 "CoefTurnsModel" "moved" "[I", .fieldLink RY1 23 "CoefTurnsModel" "w" "I", .fieldLink RY1 27 "CoefTurnsModel" "h" "I", .fieldLink RY1 30 "CoefTurnsModel" "keptW" "I", .fieldLink RY1 33 "CoefTurnsModel" "keptH" "I", .methodLink RY1 19 yY1_near, .static yY1_near, .initialized RY1, .code yY1_near cY1_near 1 (some .int)] ++ wsY10)
def wsY1_thrown : List Cond := .code yY1_thrown cY1_thrown 1 (some .int) :: ([.fieldLink RY1 36 "CoefTurnsModel" "thrown" "I"] ++ wsY10)
def wsY1_isBlock : List Cond := .code yY1_isBlock cY1_isBlock 3 (some .boolean) :: ([.fieldLink RY1 23 "CoefTurnsModel" "w" "I", .fieldLink RY1 27 "CoefTurnsModel" "h" "I"] ++ wsY10)
def wsY1_isPlace : List Cond := .code yY1_isPlace cY1_isPlace 1 (some .boolean) :: ([])
def wsY1_block : List Cond := .code yY1_block cY1_block 2 (some .int) :: ([])
def wsY1_put : List Cond := .code yY1_put cY1_put 5 none :: ([.fieldLink RY1 36 "CoefTurnsModel" "thrown" "I", .fieldLink RY1 7 "CoefTurnsModel" "plane" "[I", .methodLink RY1 39 yY1_isBlock, .instanceMethod yY1_isBlock, .selects RY1 yY1_isBlock yY1_isBlock, .initialized RY1, .code yY1_isBlock cY1_isBlock 3 (some .boolean), .fieldLink RY1 23 "CoefTurnsModel" "w" "I", .fieldLink RY1 27 "CoefTurnsModel" "h" "I", .methodLink RY1 43 yY1_isPlace, .static yY1_isPlace, .code yY1_isPlace cY1_isPlace 1 (some .boolean), .methodLink RY1 47 yY1_block, .static yY1_block, .code yY1_block cY1_block 2 (some .int)] ++ wsY10)
def wsY1_fill : List Cond := .code yY1_fill cY1_fill 8 none :: ([.fieldLink RY1 36 "CoefTurnsModel" "thrown" "I", .fieldLink RY1 27 "CoefTurnsModel" "h" "I", .fieldLink RY1 23 "CoefTurnsModel" "w" "I", .constantLong RY1 51 (40503), .constantLong RY1 53 (4294967295), .constantLong RY1 55 (2654435761), .fieldLink RY1 7 "CoefTurnsModel" "plane" "[I", .constantLong RY1 57 (2047), .methodLink RY1 47 yY1_block, .static yY1_block, .initialized RY1, .code yY1_block cY1_block 2 (some .int)] ++ wsY10)
def wsY1_become : List Cond := .code yY1_become cY1_become 4 none :: ([.fieldLink RY1 23 "CoefTurnsModel" "w" "I", .fieldLink RY1 27 "CoefTurnsModel" "h" "I", .fieldLink RY1 7 "CoefTurnsModel" "plane" "[I", .fieldLink RY1 16 "CoefTurnsModel" "moved" "[I"] ++ wsY10)
def wsY1_transposeAll : List Cond := .code yY1_transposeAll cY1_transposeAll 4 none :: ([.fieldLink RY1 23 "CoefTurnsModel" "w" "I", .fieldLink RY1 27 "CoefTurnsModel" "h" "I", .fieldLink RY1 16 "CoefTurnsModel" "moved" "[I", .fieldLink RY1 7 "CoefTurnsModel" "plane" "[I", .methodLink RY1 47 yY1_block, .static yY1_block, .initialized RY1, .code yY1_block cY1_block 2 (some .int), .methodLink RY1 59 yY1_become, .instanceMethod yY1_become, .selects RY1 yY1_become yY1_become, .code yY1_become cY1_become 4 none] ++ wsY10)
def wsY1_mirrorAll : List Cond := .code yY1_mirrorAll cY1_mirrorAll 5 none :: ([.fieldLink RY1 27 "CoefTurnsModel" "h" "I", .fieldLink RY1 23 "CoefTurnsModel" "w" "I", .fieldLink RY1 7 "CoefTurnsModel" "plane" "[I", .fieldLink RY1 16 "CoefTurnsModel" "moved" "[I", .methodLink RY1 47 yY1_block, .static yY1_block, .initialized RY1, .code yY1_block cY1_block 2 (some .int), .methodLink RY1 59 yY1_become, .instanceMethod yY1_become, .selects RY1 yY1_become yY1_become, .code yY1_become cY1_become 4 none] ++ wsY10)
def wsY1_flipAll : List Cond := .code yY1_flipAll cY1_flipAll 5 none :: ([.fieldLink RY1 27 "CoefTurnsModel" "h" "I", .fieldLink RY1 23 "CoefTurnsModel" "w" "I", .fieldLink RY1 7 "CoefTurnsModel" "plane" "[I", .fieldLink RY1 16 "CoefTurnsModel" "moved" "[I", .methodLink RY1 47 yY1_block, .static yY1_block, .initialized RY1, .code yY1_block cY1_block 2 (some .int), .methodLink RY1 59 yY1_become, .instanceMethod yY1_become, .selects RY1 yY1_become yY1_become, .code yY1_become cY1_become 4 none] ++ wsY10)
def wsY1_transpose : List Cond := .code yY1_transpose cY1_transpose 1 none :: ([.fieldLink RY1 36 "CoefTurnsModel" "thrown" "I", .methodLink RY1 63 yY1_transposeAll, .instanceMethod yY1_transposeAll, .selects RY1 yY1_transposeAll yY1_transposeAll, .initialized RY1, .code yY1_transposeAll cY1_transposeAll 4 none, .fieldLink RY1 23 "CoefTurnsModel" "w" "I", .fieldLink RY1 27 "CoefTurnsModel" "h" "I", .fieldLink RY1 16 "CoefTurnsModel" "moved" "[I", .fieldLink RY1 7 "CoefTurnsModel" "plane" "[I", .methodLink RY1 47 yY1_block, .static yY1_block, .code yY1_block cY1_block 2 (some .int), .methodLink RY1 59 yY1_become, .instanceMethod yY1_become, .selects RY1 yY1_become yY1_become, .code yY1_become cY1_become 4 none] ++ wsY10)
def wsY1_mirror : List Cond := .code yY1_mirror cY1_mirror 1 none :: ([.fieldLink RY1 36 "CoefTurnsModel" "thrown" "I", .methodLink RY1 66 yY1_mirrorAll, .instanceMethod yY1_mirrorAll, .selects RY1 yY1_mirrorAll yY1_mirrorAll, .initialized RY1, .code yY1_mirrorAll cY1_mirrorAll 5 none, .fieldLink RY1 27 "CoefTurnsModel" "h" "I", .fieldLink RY1 23 "CoefTurnsModel" "w" "I", .fieldLink RY1 7 "CoefTurnsModel" "plane" "[I", .fieldLink RY1 16 "CoefTurnsModel" "moved" "[I", .methodLink RY1 47 yY1_block, .static yY1_block, .code yY1_block cY1_block 2 (some .int), .methodLink RY1 59 yY1_become, .instanceMethod yY1_become, .selects RY1 yY1_become yY1_become, .code yY1_become cY1_become 4 none] ++ wsY10)
def wsY1_flip : List Cond := .code yY1_flip cY1_flip 1 none :: ([.fieldLink RY1 36 "CoefTurnsModel" "thrown" "I", .methodLink RY1 69 yY1_flipAll, .instanceMethod yY1_flipAll, .selects RY1 yY1_flipAll yY1_flipAll, .initialized RY1, .code yY1_flipAll cY1_flipAll 5 none, .fieldLink RY1 27 "CoefTurnsModel" "h" "I", .fieldLink RY1 23 "CoefTurnsModel" "w" "I", .fieldLink RY1 7 "CoefTurnsModel" "plane" "[I", .fieldLink RY1 16 "CoefTurnsModel" "moved" "[I", .methodLink RY1 47 yY1_block, .static yY1_block, .code yY1_block cY1_block 2 (some .int), .methodLink RY1 59 yY1_become, .instanceMethod yY1_become, .selects RY1 yY1_become yY1_become, .code yY1_become cY1_become 4 none] ++ wsY10)
def wsY1_turn : List Cond := .code yY1_turn cY1_turn 4 none :: ([.fieldLink RY1 36 "CoefTurnsModel" "thrown" "I", .methodLink RY1 63 yY1_transposeAll, .instanceMethod yY1_transposeAll, .selects RY1 yY1_transposeAll yY1_transposeAll, .initialized RY1, .code yY1_transposeAll cY1_transposeAll 4 none, .fieldLink RY1 23 "CoefTurnsModel" "w" "I", .fieldLink RY1 27 "CoefTurnsModel" "h" "I", .fieldLink RY1 16 "CoefTurnsModel" "moved" "[I", .fieldLink RY1 7 "CoefTurnsModel" "plane" "[I", .methodLink RY1 47 yY1_block, .static yY1_block, .code yY1_block cY1_block 2 (some .int), .methodLink RY1 59 yY1_become, .instanceMethod yY1_become, .selects RY1 yY1_become yY1_become, .code yY1_become cY1_become 4 none, .methodLink RY1 66 yY1_mirrorAll, .instanceMethod yY1_mirrorAll, .selects RY1 yY1_mirrorAll yY1_mirrorAll, .code yY1_mirrorAll cY1_mirrorAll 5 none] ++ wsY10)
def wsY1_crop : List Cond := .code yY1_crop cY1_crop 8 (some .boolean) :: ([.fieldLink RY1 36 "CoefTurnsModel" "thrown" "I", .fieldLink RY1 23 "CoefTurnsModel" "w" "I", .fieldLink RY1 27 "CoefTurnsModel" "h" "I", .fieldLink RY1 16 "CoefTurnsModel" "moved" "[I", .fieldLink RY1 7 "CoefTurnsModel" "plane" "[I", .methodLink RY1 47 yY1_block, .static yY1_block, .initialized RY1, .code yY1_block cY1_block 2 (some .int), .methodLink RY1 59 yY1_become, .instanceMethod yY1_become, .selects RY1 yY1_become yY1_become, .code yY1_become cY1_become 4 none] ++ wsY10)
def wsY1_swap : List Cond := .code yY1_swap cY1_swap 7 (some .boolean) :: ([.fieldLink RY1 36 "CoefTurnsModel" "thrown" "I", .fieldLink RY1 7 "CoefTurnsModel" "plane" "[I", .methodLink RY1 39 yY1_isBlock, .instanceMethod yY1_isBlock, .selects RY1 yY1_isBlock yY1_isBlock, .initialized RY1, .code yY1_isBlock cY1_isBlock 3 (some .boolean), .fieldLink RY1 23 "CoefTurnsModel" "w" "I", .fieldLink RY1 27 "CoefTurnsModel" "h" "I", .methodLink RY1 47 yY1_block, .static yY1_block, .code yY1_block cY1_block 2 (some .int)] ++ wsY10)
def wsY1_keep : List Cond := .code yY1_keep cY1_keep 2 none :: ([.fieldLink RY1 36 "CoefTurnsModel" "thrown" "I", .fieldLink RY1 23 "CoefTurnsModel" "w" "I", .fieldLink RY1 30 "CoefTurnsModel" "keptW" "I", .fieldLink RY1 27 "CoefTurnsModel" "h" "I", .fieldLink RY1 33 "CoefTurnsModel" "keptH" "I", .fieldLink RY1 13 "CoefTurnsModel" "kept" "[I", .fieldLink RY1 7 "CoefTurnsModel" "plane" "[I"] ++ wsY10)
def wsY1_restore : List Cond := .code yY1_restore cY1_restore 2 none :: ([.fieldLink RY1 36 "CoefTurnsModel" "thrown" "I", .fieldLink RY1 30 "CoefTurnsModel" "keptW" "I", .fieldLink RY1 23 "CoefTurnsModel" "w" "I", .fieldLink RY1 33 "CoefTurnsModel" "keptH" "I", .fieldLink RY1 27 "CoefTurnsModel" "h" "I", .fieldLink RY1 7 "CoefTurnsModel" "plane" "[I", .fieldLink RY1 13 "CoefTurnsModel" "kept" "[I"] ++ wsY10)
def wsY1_differ : List Cond := .code yY1_differ cY1_differ 5 (some .int) :: ([.fieldLink RY1 36 "CoefTurnsModel" "thrown" "I", .fieldLink RY1 23 "CoefTurnsModel" "w" "I", .fieldLink RY1 30 "CoefTurnsModel" "keptW" "I", .fieldLink RY1 27 "CoefTurnsModel" "h" "I", .fieldLink RY1 33 "CoefTurnsModel" "keptH" "I", .fieldLink RY1 7 "CoefTurnsModel" "plane" "[I", .fieldLink RY1 13 "CoefTurnsModel" "kept" "[I", .methodLink RY1 47 yY1_block, .static yY1_block, .initialized RY1, .code yY1_block cY1_block 2 (some .int)] ++ wsY10)
def wsY1_at : List Cond := .code yY1_at cY1_at 4 (some .int) :: ([.fieldLink RY1 36 "CoefTurnsModel" "thrown" "I", .fieldLink RY1 7 "CoefTurnsModel" "plane" "[I", .methodLink RY1 39 yY1_isBlock, .instanceMethod yY1_isBlock, .selects RY1 yY1_isBlock yY1_isBlock, .initialized RY1, .code yY1_isBlock cY1_isBlock 3 (some .boolean), .fieldLink RY1 23 "CoefTurnsModel" "w" "I", .fieldLink RY1 27 "CoefTurnsModel" "h" "I", .methodLink RY1 43 yY1_isPlace, .static yY1_isPlace, .code yY1_isPlace cY1_isPlace 1 (some .boolean), .methodLink RY1 47 yY1_block, .static yY1_block, .code yY1_block cY1_block 2 (some .int)] ++ wsY10)
def wsY1_four : List Cond := .code yY1_four cY1_four 8 (some .long) :: ([.fieldLink RY1 36 "CoefTurnsModel" "thrown" "I", .fieldLink RY1 7 "CoefTurnsModel" "plane" "[I", .constantLong RY1 72 (65535), .methodLink RY1 39 yY1_isBlock, .instanceMethod yY1_isBlock, .selects RY1 yY1_isBlock yY1_isBlock, .initialized RY1, .code yY1_isBlock cY1_isBlock 3 (some .boolean), .fieldLink RY1 23 "CoefTurnsModel" "w" "I", .fieldLink RY1 27 "CoefTurnsModel" "h" "I", .methodLink RY1 47 yY1_block, .static yY1_block, .code yY1_block cY1_block 2 (some .int)] ++ wsY10)
def wsY1_sum : List Cond := .code yY1_sum cY1_sum 6 (some .long) :: ([.fieldLink RY1 36 "CoefTurnsModel" "thrown" "I", .fieldLink RY1 27 "CoefTurnsModel" "h" "I", .fieldLink RY1 23 "CoefTurnsModel" "w" "I", .fieldLink RY1 7 "CoefTurnsModel" "plane" "[I", .methodLink RY1 43 yY1_isPlace, .static yY1_isPlace, .initialized RY1, .code yY1_isPlace cY1_isPlace 1 (some .boolean), .methodLink RY1 47 yY1_block, .static yY1_block, .code yY1_block cY1_block 2 (some .int)] ++ wsY10)
def wsY1_lookAll : List Cond := .code yY1_lookAll cY1_lookAll 8 (some .int) :: ([.fieldLink RY1 27 "CoefTurnsModel" "h" "I", .fieldLink RY1 23 "CoefTurnsModel" "w" "I", .fieldLink RY1 7 "CoefTurnsModel" "plane" "[I", .methodLink RY1 47 yY1_block, .static yY1_block, .initialized RY1, .code yY1_block cY1_block 2 (some .int)] ++ wsY10)
def wsY1_look : List Cond := .code yY1_look cY1_look 2 (some .int) :: ([.fieldLink RY1 36 "CoefTurnsModel" "thrown" "I", .fieldLink RY1 23 "CoefTurnsModel" "w" "I", .fieldLink RY1 27 "CoefTurnsModel" "h" "I", .fieldLink RY1 30 "CoefTurnsModel" "keptW" "I", .fieldLink RY1 33 "CoefTurnsModel" "keptH" "I", .methodLink RY1 74 yY1_lookAll, .instanceMethod yY1_lookAll, .selects RY1 yY1_lookAll yY1_lookAll, .initialized RY1, .code yY1_lookAll cY1_lookAll 8 (some .int), .fieldLink RY1 7 "CoefTurnsModel" "plane" "[I", .methodLink RY1 47 yY1_block, .static yY1_block, .code yY1_block cY1_block 2 (some .int)] ++ wsY10)
def wsX0_sum : List Cond := .code yX0_sum cX0_sum 8 (some .long) :: ([.classLink RX0 41 "java/lang/IndexOutOfBoundsException", .initialized "java/lang/IndexOutOfBoundsException", .fieldLink RX0 17 "CoefTurns" "height" "I", .fieldLink RX0 13 "CoefTurns" "width" "I", .fieldLink RX0 26 "CoefTurns" "cells" "[I", .methodLink RX0 37 yX0_isPlace, .static yX0_isPlace, .initialized RX0, .code yX0_isPlace cX0_isPlace 1 (some .boolean), .methodLink RX0 53 yX0_blockStart, .static yX0_blockStart, .code yX0_blockStart cX0_blockStart 2 (some .int)] ++ wsX00 ++ (vx_atS RX0 45 "java/lang/IndexOutOfBoundsException" ["java/lang/RuntimeException", "java/lang/Exception"]).filter goodWord)
def wsL_sum : List Cond := .codeWith yL_sum cL_sum 4 (some .int) [(0, 8, 11, 13)] :: ([.classLink RL 13 "java/lang/IndexOutOfBoundsException", .methodLink RL 17 yX0_sum, .instanceMethod yX0_sum, .selects RX0 yX0_sum yX0_sum, .initialized RX0, .code yX0_sum cX0_sum 8 (some .long), .classLink RX0 41 "java/lang/IndexOutOfBoundsException", .initialized "java/lang/IndexOutOfBoundsException", .fieldLink RX0 17 "CoefTurns" "height" "I", .fieldLink RX0 13 "CoefTurns" "width" "I", .fieldLink RX0 26 "CoefTurns" "cells" "[I", .methodLink RX0 37 yX0_isPlace, .static yX0_isPlace, .code yX0_isPlace cX0_isPlace 1 (some .boolean), .methodLink RX0 53 yX0_blockStart, .static yX0_blockStart, .code yX0_blockStart cX0_blockStart 2 (some .int)] ++ wsX00 ++ (vx_atS RX0 45 "java/lang/IndexOutOfBoundsException" ["java/lang/RuntimeException", "java/lang/Exception"]).filter goodWord)
-- words of callees among their callers'
set_option maxRecDepth 20000 in
theorem ggY1_init_Y1_near : GoodIn wsY1_init wsY1_near := goodIn_r _ [15] (by decide +kernel) (by decide +kernel)
set_option maxRecDepth 20000 in
theorem gY1_init_Y1_near : GoodIn wsY1_init (va_wsS RY1 19 yY1_near wsY1_near) := goodIn_app (goodIn_of _ (by decide +kernel)) ggY1_init_Y1_near
set_option maxRecDepth 20000 in
theorem ggY1_put_Y1_isBlock : GoodIn wsY1_put wsY1_isBlock := goodIn_r _ [7, 8, 9, 16, 17, 18, 19, 20, 21, 22, 23] (by decide +kernel) (by decide +kernel)
set_option maxRecDepth 20000 in
theorem gY1_put_Y1_isBlock : GoodIn wsY1_put (wsV RY1 39 RY1 yY1_isBlock wsY1_isBlock) := goodIn_app (goodIn_of _ (by decide +kernel)) ggY1_put_Y1_isBlock
set_option maxRecDepth 20000 in
theorem ggY1_put_Y1_isPlace : GoodIn wsY1_put wsY1_isPlace := goodIn_r _ [12] (by decide +kernel) (by decide +kernel)
set_option maxRecDepth 20000 in
theorem gY1_put_Y1_isPlace : GoodIn wsY1_put (va_wsS RY1 43 yY1_isPlace wsY1_isPlace) := goodIn_app (goodIn_of _ (by decide +kernel)) ggY1_put_Y1_isPlace
set_option maxRecDepth 20000 in
theorem ggY1_put_Y1_block : GoodIn wsY1_put wsY1_block := goodIn_r _ [15] (by decide +kernel) (by decide +kernel)
set_option maxRecDepth 20000 in
theorem gY1_put_Y1_block : GoodIn wsY1_put (va_wsS RY1 47 yY1_block wsY1_block) := goodIn_app (goodIn_of _ (by decide +kernel)) ggY1_put_Y1_block
set_option maxRecDepth 20000 in
theorem ggY1_fill_Y1_block : GoodIn wsY1_fill wsY1_block := goodIn_r _ [12] (by decide +kernel) (by decide +kernel)
set_option maxRecDepth 20000 in
theorem gY1_fill_Y1_block : GoodIn wsY1_fill (va_wsS RY1 47 yY1_block wsY1_block) := goodIn_app (goodIn_of _ (by decide +kernel)) ggY1_fill_Y1_block
set_option maxRecDepth 20000 in
theorem ggY1_transposeAll_Y1_block : GoodIn wsY1_transposeAll wsY1_block := goodIn_r _ [8] (by decide +kernel) (by decide +kernel)
set_option maxRecDepth 20000 in
theorem gY1_transposeAll_Y1_block : GoodIn wsY1_transposeAll (va_wsS RY1 47 yY1_block wsY1_block) := goodIn_app (goodIn_of _ (by decide +kernel)) ggY1_transposeAll_Y1_block
set_option maxRecDepth 20000 in
theorem ggY1_transposeAll_Y1_become : GoodIn wsY1_transposeAll wsY1_become := goodIn_r _ [12, 1, 2, 4, 3, 13, 14, 15, 16, 17, 18, 19, 20] (by decide +kernel) (by decide +kernel)
set_option maxRecDepth 20000 in
theorem gY1_transposeAll_Y1_become : GoodIn wsY1_transposeAll (wsV RY1 59 RY1 yY1_become wsY1_become) := goodIn_app (goodIn_of _ (by decide +kernel)) ggY1_transposeAll_Y1_become
set_option maxRecDepth 20000 in
theorem ggY1_mirrorAll_Y1_block : GoodIn wsY1_mirrorAll wsY1_block := goodIn_r _ [8] (by decide +kernel) (by decide +kernel)
set_option maxRecDepth 20000 in
theorem gY1_mirrorAll_Y1_block : GoodIn wsY1_mirrorAll (va_wsS RY1 47 yY1_block wsY1_block) := goodIn_app (goodIn_of _ (by decide +kernel)) ggY1_mirrorAll_Y1_block
set_option maxRecDepth 20000 in
theorem ggY1_mirrorAll_Y1_become : GoodIn wsY1_mirrorAll wsY1_become := goodIn_r _ [12, 2, 1, 3, 4, 13, 14, 15, 16, 17, 18, 19, 20] (by decide +kernel) (by decide +kernel)
set_option maxRecDepth 20000 in
theorem gY1_mirrorAll_Y1_become : GoodIn wsY1_mirrorAll (wsV RY1 59 RY1 yY1_become wsY1_become) := goodIn_app (goodIn_of _ (by decide +kernel)) ggY1_mirrorAll_Y1_become
set_option maxRecDepth 20000 in
theorem ggY1_flipAll_Y1_block : GoodIn wsY1_flipAll wsY1_block := goodIn_r _ [8] (by decide +kernel) (by decide +kernel)
set_option maxRecDepth 20000 in
theorem gY1_flipAll_Y1_block : GoodIn wsY1_flipAll (va_wsS RY1 47 yY1_block wsY1_block) := goodIn_app (goodIn_of _ (by decide +kernel)) ggY1_flipAll_Y1_block
set_option maxRecDepth 20000 in
theorem ggY1_flipAll_Y1_become : GoodIn wsY1_flipAll wsY1_become := goodIn_r _ [12, 2, 1, 3, 4, 13, 14, 15, 16, 17, 18, 19, 20] (by decide +kernel) (by decide +kernel)
set_option maxRecDepth 20000 in
theorem gY1_flipAll_Y1_become : GoodIn wsY1_flipAll (wsV RY1 59 RY1 yY1_become wsY1_become) := goodIn_app (goodIn_of _ (by decide +kernel)) ggY1_flipAll_Y1_become
set_option maxRecDepth 20000 in
theorem ggY1_transpose_Y1_transposeAll : GoodIn wsY1_transpose wsY1_transposeAll := goodIn_r _ [6, 7, 8, 9, 10, 11, 12, 5, 13, 14, 15, 16, 17, 18, 19, 20, 21, 22, 23, 24, 25] (by decide +kernel) (by decide +kernel)
set_option maxRecDepth 20000 in
theorem gY1_transpose_Y1_transposeAll : GoodIn wsY1_transpose (wsV RY1 63 RY1 yY1_transposeAll wsY1_transposeAll) := goodIn_app (goodIn_of _ (by decide +kernel)) ggY1_transpose_Y1_transposeAll
set_option maxRecDepth 20000 in
theorem ggY1_mirror_Y1_mirrorAll : GoodIn wsY1_mirror wsY1_mirrorAll := goodIn_r _ [6, 7, 8, 9, 10, 11, 12, 5, 13, 14, 15, 16, 17, 18, 19, 20, 21, 22, 23, 24, 25] (by decide +kernel) (by decide +kernel)
set_option maxRecDepth 20000 in
theorem gY1_mirror_Y1_mirrorAll : GoodIn wsY1_mirror (wsV RY1 66 RY1 yY1_mirrorAll wsY1_mirrorAll) := goodIn_app (goodIn_of _ (by decide +kernel)) ggY1_mirror_Y1_mirrorAll
set_option maxRecDepth 20000 in
theorem ggY1_flip_Y1_flipAll : GoodIn wsY1_flip wsY1_flipAll := goodIn_r _ [6, 7, 8, 9, 10, 11, 12, 5, 13, 14, 15, 16, 17, 18, 19, 20, 21, 22, 23, 24, 25] (by decide +kernel) (by decide +kernel)
set_option maxRecDepth 20000 in
theorem gY1_flip_Y1_flipAll : GoodIn wsY1_flip (wsV RY1 69 RY1 yY1_flipAll wsY1_flipAll) := goodIn_app (goodIn_of _ (by decide +kernel)) ggY1_flip_Y1_flipAll
set_option maxRecDepth 20000 in
theorem ggY1_turn_Y1_transposeAll : GoodIn wsY1_turn wsY1_transposeAll := goodIn_r _ [6, 7, 8, 9, 10, 11, 12, 5, 13, 14, 15, 16, 17, 22, 23, 24, 25, 26, 27, 28, 29] (by decide +kernel) (by decide +kernel)
set_option maxRecDepth 20000 in
theorem gY1_turn_Y1_transposeAll : GoodIn wsY1_turn (wsV RY1 63 RY1 yY1_transposeAll wsY1_transposeAll) := goodIn_app (goodIn_of _ (by decide +kernel)) ggY1_turn_Y1_transposeAll
set_option maxRecDepth 20000 in
theorem ggY1_turn_Y1_mirrorAll : GoodIn wsY1_turn wsY1_mirrorAll := goodIn_r _ [21, 8, 7, 10, 9, 11, 12, 5, 13, 14, 15, 16, 17, 22, 23, 24, 25, 26, 27, 28, 29] (by decide +kernel) (by decide +kernel)
set_option maxRecDepth 20000 in
theorem gY1_turn_Y1_mirrorAll : GoodIn wsY1_turn (wsV RY1 66 RY1 yY1_mirrorAll wsY1_mirrorAll) := goodIn_app (goodIn_of _ (by decide +kernel)) ggY1_turn_Y1_mirrorAll
set_option maxRecDepth 20000 in
theorem ggY1_crop_Y1_block : GoodIn wsY1_crop wsY1_block := goodIn_r _ [9] (by decide +kernel) (by decide +kernel)
set_option maxRecDepth 20000 in
theorem gY1_crop_Y1_block : GoodIn wsY1_crop (va_wsS RY1 47 yY1_block wsY1_block) := goodIn_app (goodIn_of _ (by decide +kernel)) ggY1_crop_Y1_block
set_option maxRecDepth 20000 in
theorem ggY1_crop_Y1_become : GoodIn wsY1_crop wsY1_become := goodIn_r _ [13, 2, 3, 5, 4, 14, 15, 16, 17, 18, 19, 20, 21] (by decide +kernel) (by decide +kernel)
set_option maxRecDepth 20000 in
theorem gY1_crop_Y1_become : GoodIn wsY1_crop (wsV RY1 59 RY1 yY1_become wsY1_become) := goodIn_app (goodIn_of _ (by decide +kernel)) ggY1_crop_Y1_become
set_option maxRecDepth 20000 in
theorem ggY1_swap_Y1_isBlock : GoodIn wsY1_swap wsY1_isBlock := goodIn_r _ [7, 8, 9, 13, 14, 15, 16, 17, 18, 19, 20] (by decide +kernel) (by decide +kernel)
set_option maxRecDepth 20000 in
theorem gY1_swap_Y1_isBlock : GoodIn wsY1_swap (wsV RY1 39 RY1 yY1_isBlock wsY1_isBlock) := goodIn_app (goodIn_of _ (by decide +kernel)) ggY1_swap_Y1_isBlock
set_option maxRecDepth 20000 in
theorem ggY1_swap_Y1_block : GoodIn wsY1_swap wsY1_block := goodIn_r _ [12] (by decide +kernel) (by decide +kernel)
set_option maxRecDepth 20000 in
theorem gY1_swap_Y1_block : GoodIn wsY1_swap (va_wsS RY1 47 yY1_block wsY1_block) := goodIn_app (goodIn_of _ (by decide +kernel)) ggY1_swap_Y1_block
set_option maxRecDepth 20000 in
theorem ggY1_differ_Y1_block : GoodIn wsY1_differ wsY1_block := goodIn_r _ [11] (by decide +kernel) (by decide +kernel)
set_option maxRecDepth 20000 in
theorem gY1_differ_Y1_block : GoodIn wsY1_differ (va_wsS RY1 47 yY1_block wsY1_block) := goodIn_app (goodIn_of _ (by decide +kernel)) ggY1_differ_Y1_block
set_option maxRecDepth 20000 in
theorem ggY1_at_Y1_isBlock : GoodIn wsY1_at wsY1_isBlock := goodIn_r _ [7, 8, 9, 16, 17, 18, 19, 20, 21, 22, 23] (by decide +kernel) (by decide +kernel)
set_option maxRecDepth 20000 in
theorem gY1_at_Y1_isBlock : GoodIn wsY1_at (wsV RY1 39 RY1 yY1_isBlock wsY1_isBlock) := goodIn_app (goodIn_of _ (by decide +kernel)) ggY1_at_Y1_isBlock
set_option maxRecDepth 20000 in
theorem ggY1_at_Y1_isPlace : GoodIn wsY1_at wsY1_isPlace := goodIn_r _ [12] (by decide +kernel) (by decide +kernel)
set_option maxRecDepth 20000 in
theorem gY1_at_Y1_isPlace : GoodIn wsY1_at (va_wsS RY1 43 yY1_isPlace wsY1_isPlace) := goodIn_app (goodIn_of _ (by decide +kernel)) ggY1_at_Y1_isPlace
set_option maxRecDepth 20000 in
theorem ggY1_at_Y1_block : GoodIn wsY1_at wsY1_block := goodIn_r _ [15] (by decide +kernel) (by decide +kernel)
set_option maxRecDepth 20000 in
theorem gY1_at_Y1_block : GoodIn wsY1_at (va_wsS RY1 47 yY1_block wsY1_block) := goodIn_app (goodIn_of _ (by decide +kernel)) ggY1_at_Y1_block
set_option maxRecDepth 20000 in
theorem ggY1_four_Y1_isBlock : GoodIn wsY1_four wsY1_isBlock := goodIn_r _ [8, 9, 10, 14, 15, 16, 17, 18, 19, 20, 21] (by decide +kernel) (by decide +kernel)
set_option maxRecDepth 20000 in
theorem gY1_four_Y1_isBlock : GoodIn wsY1_four (wsV RY1 39 RY1 yY1_isBlock wsY1_isBlock) := goodIn_app (goodIn_of _ (by decide +kernel)) ggY1_four_Y1_isBlock
set_option maxRecDepth 20000 in
theorem ggY1_four_Y1_block : GoodIn wsY1_four wsY1_block := goodIn_r _ [13] (by decide +kernel) (by decide +kernel)
set_option maxRecDepth 20000 in
theorem gY1_four_Y1_block : GoodIn wsY1_four (va_wsS RY1 47 yY1_block wsY1_block) := goodIn_app (goodIn_of _ (by decide +kernel)) ggY1_four_Y1_block
set_option maxRecDepth 20000 in
theorem ggY1_sum_Y1_isPlace : GoodIn wsY1_sum wsY1_isPlace := goodIn_r _ [8] (by decide +kernel) (by decide +kernel)
set_option maxRecDepth 20000 in
theorem gY1_sum_Y1_isPlace : GoodIn wsY1_sum (va_wsS RY1 43 yY1_isPlace wsY1_isPlace) := goodIn_app (goodIn_of _ (by decide +kernel)) ggY1_sum_Y1_isPlace
set_option maxRecDepth 20000 in
theorem ggY1_sum_Y1_block : GoodIn wsY1_sum wsY1_block := goodIn_r _ [11] (by decide +kernel) (by decide +kernel)
set_option maxRecDepth 20000 in
theorem gY1_sum_Y1_block : GoodIn wsY1_sum (va_wsS RY1 47 yY1_block wsY1_block) := goodIn_app (goodIn_of _ (by decide +kernel)) ggY1_sum_Y1_block
set_option maxRecDepth 20000 in
theorem ggY1_lookAll_Y1_block : GoodIn wsY1_lookAll wsY1_block := goodIn_r _ [7] (by decide +kernel) (by decide +kernel)
set_option maxRecDepth 20000 in
theorem gY1_lookAll_Y1_block : GoodIn wsY1_lookAll (va_wsS RY1 47 yY1_block wsY1_block) := goodIn_app (goodIn_of _ (by decide +kernel)) ggY1_lookAll_Y1_block
set_option maxRecDepth 20000 in
theorem ggY1_look_Y1_lookAll : GoodIn wsY1_look wsY1_lookAll := goodIn_r _ [10, 3, 2, 11, 12, 13, 9, 14, 15, 16, 17, 18, 19, 20, 21, 22] (by decide +kernel) (by decide +kernel)
set_option maxRecDepth 20000 in
theorem gY1_look_Y1_lookAll : GoodIn wsY1_look (wsV RY1 74 RY1 yY1_lookAll wsY1_lookAll) := goodIn_app (goodIn_of _ (by decide +kernel)) ggY1_look_Y1_lookAll
set_option maxRecDepth 20000 in
theorem ggX0_sum_X0_isPlace : GoodIn wsX0_sum wsX0_isPlace := goodIn_r _ [9] (by decide +kernel) (by decide +kernel)
set_option maxRecDepth 20000 in
theorem gX0_sum_X0_isPlace : GoodIn wsX0_sum (va_wsS RX0 37 yX0_isPlace wsX0_isPlace) := goodIn_app (goodIn_of _ (by decide +kernel)) ggX0_sum_X0_isPlace
set_option maxRecDepth 20000 in
theorem ggX0_sum_X0_blockStart : GoodIn wsX0_sum wsX0_blockStart := goodIn_r _ [12] (by decide +kernel) (by decide +kernel)
set_option maxRecDepth 20000 in
theorem gX0_sum_X0_blockStart : GoodIn wsX0_sum (va_wsS RX0 53 yX0_blockStart wsX0_blockStart) := goodIn_app (goodIn_of _ (by decide +kernel)) ggX0_sum_X0_blockStart
set_option maxRecDepth 20000 in
theorem ggL_sum_X0_sum : GoodIn wsL_sum wsX0_sum := goodIn_ca (goodIn_r _ [6, 7, 8, 9, 10, 11, 12, 13, 5, 14, 15, 16, 17, 18, 19, 20, 21, 22, 23] (by decide +kernel) (by decide +kernel)) (goodIn_sub (fun _ h => List.mem_cons_of_mem _ (List.mem_append_right _ h)) (by decide +kernel))
set_option maxRecDepth 20000 in
theorem gL_sum_X0_sum : GoodIn wsL_sum (wsV RL 17 RX0 yX0_sum wsX0_sum) := goodIn_app (goodIn_of _ (by decide +kernel)) ggL_sum_X0_sum
-- decode rows
theorem dY1_near_0 : decode cY1_near 0 = .ok (.iload_n 0, 1) := by decide +kernel
theorem dY1_near_1 : decode cY1_near 1 = .ok (.iconst 1, 1) := by decide +kernel
theorem dY1_near_2 : decode cY1_near 2 = .ok (.if_icmp .ge 7, 3) := by decide +kernel
theorem dY1_near_5 : decode cY1_near 5 = .ok (.iconst 1, 1) := by decide +kernel
theorem dY1_near_6 : decode cY1_near 6 = .ok (.goto 15, 3) := by decide +kernel
theorem dY1_near_9 : decode cY1_near 9 = .ok (.iload_n 0, 1) := by decide +kernel
theorem dY1_near_10 : decode cY1_near 10 = .ok (.bipush 8, 2) := by decide +kernel
theorem dY1_near_12 : decode cY1_near 12 = .ok (.if_icmp .le 8, 3) := by decide +kernel
theorem dY1_near_15 : decode cY1_near 15 = .ok (.bipush 8, 2) := by decide +kernel
theorem dY1_near_17 : decode cY1_near 17 = .ok (.goto 4, 3) := by decide +kernel
theorem dY1_near_20 : decode cY1_near 20 = .ok (.iload_n 0, 1) := by decide +kernel
theorem dY1_near_21 : decode cY1_near 21 = .ok (.ireturn, 1) := by decide +kernel
theorem dY1_init_0 : decode cY1_init 0 = .ok (.aload_n 0, 1) := by decide +kernel
theorem dY1_init_1 : decode cY1_init 1 = .ok (.invokespecial 1, 3) := by decide +kernel
theorem dY1_init_4 : decode cY1_init 4 = .ok (.aload_n 0, 1) := by decide +kernel
theorem dY1_init_5 : decode cY1_init 5 = .ok (.sipush 4096, 3) := by decide +kernel
theorem dY1_init_8 : decode cY1_init 8 = .ok (.newarray .int, 2) := by decide +kernel
theorem dY1_init_10 : decode cY1_init 10 = .ok (.putfield 7, 3) := by decide +kernel
theorem dY1_init_13 : decode cY1_init 13 = .ok (.aload_n 0, 1) := by decide +kernel
theorem dY1_init_14 : decode cY1_init 14 = .ok (.sipush 4096, 3) := by decide +kernel
theorem dY1_init_17 : decode cY1_init 17 = .ok (.newarray .int, 2) := by decide +kernel
theorem dY1_init_19 : decode cY1_init 19 = .ok (.putfield 13, 3) := by decide +kernel
theorem dY1_init_22 : decode cY1_init 22 = .ok (.aload_n 0, 1) := by decide +kernel
theorem dY1_init_23 : decode cY1_init 23 = .ok (.sipush 4096, 3) := by decide +kernel
theorem dY1_init_26 : decode cY1_init 26 = .ok (.newarray .int, 2) := by decide +kernel
theorem dY1_init_28 : decode cY1_init 28 = .ok (.putfield 16, 3) := by decide +kernel
theorem dY1_init_31 : decode cY1_init 31 = .ok (.aload_n 0, 1) := by decide +kernel
theorem dY1_init_32 : decode cY1_init 32 = .ok (.iload_n 1, 1) := by decide +kernel
theorem dY1_init_33 : decode cY1_init 33 = .ok (.invokestatic 19, 3) := by decide +kernel
theorem dY1_init_36 : decode cY1_init 36 = .ok (.putfield 23, 3) := by decide +kernel
theorem dY1_init_39 : decode cY1_init 39 = .ok (.aload_n 0, 1) := by decide +kernel
theorem dY1_init_40 : decode cY1_init 40 = .ok (.iload_n 2, 1) := by decide +kernel
theorem dY1_init_41 : decode cY1_init 41 = .ok (.invokestatic 19, 3) := by decide +kernel
theorem dY1_init_44 : decode cY1_init 44 = .ok (.putfield 27, 3) := by decide +kernel
theorem dY1_init_47 : decode cY1_init 47 = .ok (.aload_n 0, 1) := by decide +kernel
theorem dY1_init_48 : decode cY1_init 48 = .ok (.aload_n 0, 1) := by decide +kernel
theorem dY1_init_49 : decode cY1_init 49 = .ok (.getfield 23, 3) := by decide +kernel
theorem dY1_init_52 : decode cY1_init 52 = .ok (.putfield 30, 3) := by decide +kernel
theorem dY1_init_55 : decode cY1_init 55 = .ok (.aload_n 0, 1) := by decide +kernel
theorem dY1_init_56 : decode cY1_init 56 = .ok (.aload_n 0, 1) := by decide +kernel
theorem dY1_init_57 : decode cY1_init 57 = .ok (.getfield 27, 3) := by decide +kernel
theorem dY1_init_60 : decode cY1_init 60 = .ok (.putfield 33, 3) := by decide +kernel
theorem dY1_init_63 : decode cY1_init 63 = .ok (.return_, 1) := by decide +kernel
theorem dY1_thrown_0 : decode cY1_thrown 0 = .ok (.aload_n 0, 1) := by decide +kernel
theorem dY1_thrown_1 : decode cY1_thrown 1 = .ok (.getfield 36, 3) := by decide +kernel
theorem dY1_thrown_4 : decode cY1_thrown 4 = .ok (.ireturn, 1) := by decide +kernel
theorem dY1_isBlock_0 : decode cY1_isBlock 0 = .ok (.iload_n 1, 1) := by decide +kernel
theorem dY1_isBlock_1 : decode cY1_isBlock 1 = .ok (.ifCond .lt 27, 3) := by decide +kernel
theorem dY1_isBlock_4 : decode cY1_isBlock 4 = .ok (.iload_n 1, 1) := by decide +kernel
theorem dY1_isBlock_5 : decode cY1_isBlock 5 = .ok (.aload_n 0, 1) := by decide +kernel
theorem dY1_isBlock_6 : decode cY1_isBlock 6 = .ok (.getfield 23, 3) := by decide +kernel
theorem dY1_isBlock_9 : decode cY1_isBlock 9 = .ok (.if_icmp .ge 19, 3) := by decide +kernel
theorem dY1_isBlock_12 : decode cY1_isBlock 12 = .ok (.iload_n 2, 1) := by decide +kernel
theorem dY1_isBlock_13 : decode cY1_isBlock 13 = .ok (.ifCond .lt 15, 3) := by decide +kernel
theorem dY1_isBlock_16 : decode cY1_isBlock 16 = .ok (.iload_n 2, 1) := by decide +kernel
theorem dY1_isBlock_17 : decode cY1_isBlock 17 = .ok (.aload_n 0, 1) := by decide +kernel
theorem dY1_isBlock_18 : decode cY1_isBlock 18 = .ok (.getfield 27, 3) := by decide +kernel
theorem dY1_isBlock_21 : decode cY1_isBlock 21 = .ok (.if_icmp .ge 7, 3) := by decide +kernel
theorem dY1_isBlock_24 : decode cY1_isBlock 24 = .ok (.iconst 1, 1) := by decide +kernel
theorem dY1_isBlock_25 : decode cY1_isBlock 25 = .ok (.goto 4, 3) := by decide +kernel
theorem dY1_isBlock_28 : decode cY1_isBlock 28 = .ok (.iconst 0, 1) := by decide +kernel
theorem dY1_isBlock_29 : decode cY1_isBlock 29 = .ok (.ireturn, 1) := by decide +kernel
theorem dY1_isPlace_0 : decode cY1_isPlace 0 = .ok (.iload_n 0, 1) := by decide +kernel
theorem dY1_isPlace_1 : decode cY1_isPlace 1 = .ok (.ifCond .lt 13, 3) := by decide +kernel
theorem dY1_isPlace_4 : decode cY1_isPlace 4 = .ok (.iload_n 0, 1) := by decide +kernel
theorem dY1_isPlace_5 : decode cY1_isPlace 5 = .ok (.bipush 64, 2) := by decide +kernel
theorem dY1_isPlace_7 : decode cY1_isPlace 7 = .ok (.if_icmp .ge 7, 3) := by decide +kernel
theorem dY1_isPlace_10 : decode cY1_isPlace 10 = .ok (.iconst 1, 1) := by decide +kernel
theorem dY1_isPlace_11 : decode cY1_isPlace 11 = .ok (.goto 4, 3) := by decide +kernel
theorem dY1_isPlace_14 : decode cY1_isPlace 14 = .ok (.iconst 0, 1) := by decide +kernel
theorem dY1_isPlace_15 : decode cY1_isPlace 15 = .ok (.ireturn, 1) := by decide +kernel
theorem dY1_block_0 : decode cY1_block 0 = .ok (.bipush 64, 2) := by decide +kernel
theorem dY1_block_2 : decode cY1_block 2 = .ok (.bipush 8, 2) := by decide +kernel
theorem dY1_block_4 : decode cY1_block 4 = .ok (.iload_n 1, 1) := by decide +kernel
theorem dY1_block_5 : decode cY1_block 5 = .ok (.imul, 1) := by decide +kernel
theorem dY1_block_6 : decode cY1_block 6 = .ok (.iload_n 0, 1) := by decide +kernel
theorem dY1_block_7 : decode cY1_block 7 = .ok (.iadd, 1) := by decide +kernel
theorem dY1_block_8 : decode cY1_block 8 = .ok (.imul, 1) := by decide +kernel
theorem dY1_block_9 : decode cY1_block 9 = .ok (.ireturn, 1) := by decide +kernel
theorem dY1_put_0 : decode cY1_put 0 = .ok (.aload_n 0, 1) := by decide +kernel
theorem dY1_put_1 : decode cY1_put 1 = .ok (.aload_n 0, 1) := by decide +kernel
theorem dY1_put_2 : decode cY1_put 2 = .ok (.iload_n 1, 1) := by decide +kernel
theorem dY1_put_3 : decode cY1_put 3 = .ok (.iload_n 2, 1) := by decide +kernel
theorem dY1_put_4 : decode cY1_put 4 = .ok (.invokevirtual 39, 3) := by decide +kernel
theorem dY1_put_7 : decode cY1_put 7 = .ok (.ifCond .eq 10, 3) := by decide +kernel
theorem dY1_put_10 : decode cY1_put 10 = .ok (.iload_n 3, 1) := by decide +kernel
theorem dY1_put_11 : decode cY1_put 11 = .ok (.invokestatic 43, 3) := by decide +kernel
theorem dY1_put_14 : decode cY1_put 14 = .ok (.ifCond .ne 7, 3) := by decide +kernel
theorem dY1_put_17 : decode cY1_put 17 = .ok (.iconst 1, 1) := by decide +kernel
theorem dY1_put_18 : decode cY1_put 18 = .ok (.goto 24, 3) := by decide +kernel
theorem dY1_put_21 : decode cY1_put 21 = .ok (.iload 4, 2) := by decide +kernel
theorem dY1_put_23 : decode cY1_put 23 = .ok (.sipush (-32767), 3) := by decide +kernel
theorem dY1_put_26 : decode cY1_put 26 = .ok (.if_icmp .lt 11, 3) := by decide +kernel
theorem dY1_put_29 : decode cY1_put 29 = .ok (.iload 4, 2) := by decide +kernel
theorem dY1_put_31 : decode cY1_put 31 = .ok (.sipush 32767, 3) := by decide +kernel
theorem dY1_put_34 : decode cY1_put 34 = .ok (.if_icmp .le 7, 3) := by decide +kernel
theorem dY1_put_37 : decode cY1_put 37 = .ok (.iconst 2, 1) := by decide +kernel
theorem dY1_put_38 : decode cY1_put 38 = .ok (.goto 4, 3) := by decide +kernel
theorem dY1_put_41 : decode cY1_put 41 = .ok (.iconst 0, 1) := by decide +kernel
theorem dY1_put_42 : decode cY1_put 42 = .ok (.putfield 36, 3) := by decide +kernel
theorem dY1_put_45 : decode cY1_put 45 = .ok (.aload_n 0, 1) := by decide +kernel
theorem dY1_put_46 : decode cY1_put 46 = .ok (.getfield 36, 3) := by decide +kernel
theorem dY1_put_49 : decode cY1_put 49 = .ok (.ifCond .ne 17, 3) := by decide +kernel
theorem dY1_put_52 : decode cY1_put 52 = .ok (.aload_n 0, 1) := by decide +kernel
theorem dY1_put_53 : decode cY1_put 53 = .ok (.getfield 7, 3) := by decide +kernel
theorem dY1_put_56 : decode cY1_put 56 = .ok (.iload_n 1, 1) := by decide +kernel
theorem dY1_put_57 : decode cY1_put 57 = .ok (.iload_n 2, 1) := by decide +kernel
theorem dY1_put_58 : decode cY1_put 58 = .ok (.invokestatic 47, 3) := by decide +kernel
theorem dY1_put_61 : decode cY1_put 61 = .ok (.iload_n 3, 1) := by decide +kernel
theorem dY1_put_62 : decode cY1_put 62 = .ok (.iadd, 1) := by decide +kernel
theorem dY1_put_63 : decode cY1_put 63 = .ok (.iload 4, 2) := by decide +kernel
theorem dY1_put_65 : decode cY1_put 65 = .ok (.iastore, 1) := by decide +kernel
theorem dY1_put_66 : decode cY1_put 66 = .ok (.return_, 1) := by decide +kernel
theorem dY1_fill_0 : decode cY1_fill 0 = .ok (.aload_n 0, 1) := by decide +kernel
theorem dY1_fill_1 : decode cY1_fill 1 = .ok (.iconst 0, 1) := by decide +kernel
theorem dY1_fill_2 : decode cY1_fill 2 = .ok (.putfield 36, 3) := by decide +kernel
theorem dY1_fill_5 : decode cY1_fill 5 = .ok (.iconst 0, 1) := by decide +kernel
theorem dY1_fill_6 : decode cY1_fill 6 = .ok (.istore_n 2, 1) := by decide +kernel
theorem dY1_fill_7 : decode cY1_fill 7 = .ok (.iload_n 2, 1) := by decide +kernel
theorem dY1_fill_8 : decode cY1_fill 8 = .ok (.aload_n 0, 1) := by decide +kernel
theorem dY1_fill_9 : decode cY1_fill 9 = .ok (.getfield 27, 3) := by decide +kernel
theorem dY1_fill_12 : decode cY1_fill 12 = .ok (.if_icmp .ge 96, 3) := by decide +kernel
theorem dY1_fill_15 : decode cY1_fill 15 = .ok (.iconst 0, 1) := by decide +kernel
theorem dY1_fill_16 : decode cY1_fill 16 = .ok (.istore_n 3, 1) := by decide +kernel
theorem dY1_fill_17 : decode cY1_fill 17 = .ok (.iload_n 3, 1) := by decide +kernel
theorem dY1_fill_18 : decode cY1_fill 18 = .ok (.aload_n 0, 1) := by decide +kernel
theorem dY1_fill_19 : decode cY1_fill 19 = .ok (.getfield 23, 3) := by decide +kernel
theorem dY1_fill_22 : decode cY1_fill 22 = .ok (.if_icmp .ge 80, 3) := by decide +kernel
theorem dY1_fill_25 : decode cY1_fill 25 = .ok (.iconst 0, 1) := by decide +kernel
theorem dY1_fill_26 : decode cY1_fill 26 = .ok (.istore 4, 2) := by decide +kernel
theorem dY1_fill_28 : decode cY1_fill 28 = .ok (.iload 4, 2) := by decide +kernel
theorem dY1_fill_30 : decode cY1_fill 30 = .ok (.bipush 64, 2) := by decide +kernel
theorem dY1_fill_32 : decode cY1_fill 32 = .ok (.if_icmp .ge 64, 3) := by decide +kernel
theorem dY1_fill_35 : decode cY1_fill 35 = .ok (.iload_n 3, 1) := by decide +kernel
theorem dY1_fill_36 : decode cY1_fill 36 = .ok (.iload_n 2, 1) := by decide +kernel
theorem dY1_fill_37 : decode cY1_fill 37 = .ok (.invokestatic 47, 3) := by decide +kernel
theorem dY1_fill_40 : decode cY1_fill 40 = .ok (.iload 4, 2) := by decide +kernel
theorem dY1_fill_42 : decode cY1_fill 42 = .ok (.iadd, 1) := by decide +kernel
theorem dY1_fill_43 : decode cY1_fill 43 = .ok (.istore 5, 2) := by decide +kernel
theorem dY1_fill_45 : decode cY1_fill 45 = .ok (.iload_n 1, 1) := by decide +kernel
theorem dY1_fill_46 : decode cY1_fill 46 = .ok (.i2l, 1) := by decide +kernel
theorem dY1_fill_47 : decode cY1_fill 47 = .ok (.iload 5, 2) := by decide +kernel
theorem dY1_fill_49 : decode cY1_fill 49 = .ok (.i2l, 1) := by decide +kernel
theorem dY1_fill_50 : decode cY1_fill 50 = .ok (.ldc2_w 51, 3) := by decide +kernel
theorem dY1_fill_53 : decode cY1_fill 53 = .ok (.lmul, 1) := by decide +kernel
theorem dY1_fill_54 : decode cY1_fill 54 = .ok (.ladd, 1) := by decide +kernel
theorem dY1_fill_55 : decode cY1_fill 55 = .ok (.ldc2_w 53, 3) := by decide +kernel
theorem dY1_fill_58 : decode cY1_fill 58 = .ok (.land, 1) := by decide +kernel
theorem dY1_fill_59 : decode cY1_fill 59 = .ok (.ldc2_w 55, 3) := by decide +kernel
theorem dY1_fill_62 : decode cY1_fill 62 = .ok (.lmul, 1) := by decide +kernel
theorem dY1_fill_63 : decode cY1_fill 63 = .ok (.ldc2_w 53, 3) := by decide +kernel
theorem dY1_fill_66 : decode cY1_fill 66 = .ok (.land, 1) := by decide +kernel
theorem dY1_fill_67 : decode cY1_fill 67 = .ok (.lstore 6, 2) := by decide +kernel
theorem dY1_fill_69 : decode cY1_fill 69 = .ok (.aload_n 0, 1) := by decide +kernel
theorem dY1_fill_70 : decode cY1_fill 70 = .ok (.getfield 7, 3) := by decide +kernel
theorem dY1_fill_73 : decode cY1_fill 73 = .ok (.iload 5, 2) := by decide +kernel
theorem dY1_fill_75 : decode cY1_fill 75 = .ok (.lload 6, 2) := by decide +kernel
theorem dY1_fill_77 : decode cY1_fill 77 = .ok (.bipush 20, 2) := by decide +kernel
theorem dY1_fill_79 : decode cY1_fill 79 = .ok (.lshr, 1) := by decide +kernel
theorem dY1_fill_80 : decode cY1_fill 80 = .ok (.ldc2_w 57, 3) := by decide +kernel
theorem dY1_fill_83 : decode cY1_fill 83 = .ok (.lrem, 1) := by decide +kernel
theorem dY1_fill_84 : decode cY1_fill 84 = .ok (.l2i, 1) := by decide +kernel
theorem dY1_fill_85 : decode cY1_fill 85 = .ok (.sipush 1023, 3) := by decide +kernel
theorem dY1_fill_88 : decode cY1_fill 88 = .ok (.isub, 1) := by decide +kernel
theorem dY1_fill_89 : decode cY1_fill 89 = .ok (.iastore, 1) := by decide +kernel
theorem dY1_fill_90 : decode cY1_fill 90 = .ok (.iinc 4 1, 3) := by decide +kernel
theorem dY1_fill_93 : decode cY1_fill 93 = .ok (.goto (-65), 3) := by decide +kernel
theorem dY1_fill_96 : decode cY1_fill 96 = .ok (.iinc 3 1, 3) := by decide +kernel
theorem dY1_fill_99 : decode cY1_fill 99 = .ok (.goto (-82), 3) := by decide +kernel
theorem dY1_fill_102 : decode cY1_fill 102 = .ok (.iinc 2 1, 3) := by decide +kernel
theorem dY1_fill_105 : decode cY1_fill 105 = .ok (.goto (-98), 3) := by decide +kernel
theorem dY1_fill_108 : decode cY1_fill 108 = .ok (.return_, 1) := by decide +kernel
theorem dY1_become_0 : decode cY1_become 0 = .ok (.aload_n 0, 1) := by decide +kernel
theorem dY1_become_1 : decode cY1_become 1 = .ok (.iload_n 1, 1) := by decide +kernel
theorem dY1_become_2 : decode cY1_become 2 = .ok (.putfield 23, 3) := by decide +kernel
theorem dY1_become_5 : decode cY1_become 5 = .ok (.aload_n 0, 1) := by decide +kernel
theorem dY1_become_6 : decode cY1_become 6 = .ok (.iload_n 2, 1) := by decide +kernel
theorem dY1_become_7 : decode cY1_become 7 = .ok (.putfield 27, 3) := by decide +kernel
theorem dY1_become_10 : decode cY1_become 10 = .ok (.iconst 0, 1) := by decide +kernel
theorem dY1_become_11 : decode cY1_become 11 = .ok (.istore_n 3, 1) := by decide +kernel
theorem dY1_become_12 : decode cY1_become 12 = .ok (.iload_n 3, 1) := by decide +kernel
theorem dY1_become_13 : decode cY1_become 13 = .ok (.sipush 4096, 3) := by decide +kernel
theorem dY1_become_16 : decode cY1_become 16 = .ok (.if_icmp .ge 21, 3) := by decide +kernel
theorem dY1_become_19 : decode cY1_become 19 = .ok (.aload_n 0, 1) := by decide +kernel
theorem dY1_become_20 : decode cY1_become 20 = .ok (.getfield 7, 3) := by decide +kernel
theorem dY1_become_23 : decode cY1_become 23 = .ok (.iload_n 3, 1) := by decide +kernel
theorem dY1_become_24 : decode cY1_become 24 = .ok (.aload_n 0, 1) := by decide +kernel
theorem dY1_become_25 : decode cY1_become 25 = .ok (.getfield 16, 3) := by decide +kernel
theorem dY1_become_28 : decode cY1_become 28 = .ok (.iload_n 3, 1) := by decide +kernel
theorem dY1_become_29 : decode cY1_become 29 = .ok (.iaload, 1) := by decide +kernel
theorem dY1_become_30 : decode cY1_become 30 = .ok (.iastore, 1) := by decide +kernel
theorem dY1_become_31 : decode cY1_become 31 = .ok (.iinc 3 1, 3) := by decide +kernel
theorem dY1_become_34 : decode cY1_become 34 = .ok (.goto (-22), 3) := by decide +kernel
theorem dY1_become_37 : decode cY1_become 37 = .ok (.return_, 1) := by decide +kernel
theorem dY1_transposeAll_0 : decode cY1_transposeAll 0 = .ok (.iconst 0, 1) := by decide +kernel
theorem dY1_transposeAll_1 : decode cY1_transposeAll 1 = .ok (.istore_n 1, 1) := by decide +kernel
theorem dY1_transposeAll_2 : decode cY1_transposeAll 2 = .ok (.iload_n 1, 1) := by decide +kernel
theorem dY1_transposeAll_3 : decode cY1_transposeAll 3 = .ok (.aload_n 0, 1) := by decide +kernel
theorem dY1_transposeAll_4 : decode cY1_transposeAll 4 = .ok (.getfield 23, 3) := by decide +kernel
theorem dY1_transposeAll_7 : decode cY1_transposeAll 7 = .ok (.if_icmp .ge 74, 3) := by decide +kernel
theorem dY1_transposeAll_10 : decode cY1_transposeAll 10 = .ok (.iconst 0, 1) := by decide +kernel
theorem dY1_transposeAll_11 : decode cY1_transposeAll 11 = .ok (.istore_n 2, 1) := by decide +kernel
theorem dY1_transposeAll_12 : decode cY1_transposeAll 12 = .ok (.iload_n 2, 1) := by decide +kernel
theorem dY1_transposeAll_13 : decode cY1_transposeAll 13 = .ok (.aload_n 0, 1) := by decide +kernel
theorem dY1_transposeAll_14 : decode cY1_transposeAll 14 = .ok (.getfield 27, 3) := by decide +kernel
theorem dY1_transposeAll_17 : decode cY1_transposeAll 17 = .ok (.if_icmp .ge 58, 3) := by decide +kernel
theorem dY1_transposeAll_20 : decode cY1_transposeAll 20 = .ok (.iconst 0, 1) := by decide +kernel
theorem dY1_transposeAll_21 : decode cY1_transposeAll 21 = .ok (.istore_n 3, 1) := by decide +kernel
theorem dY1_transposeAll_22 : decode cY1_transposeAll 22 = .ok (.iload_n 3, 1) := by decide +kernel
theorem dY1_transposeAll_23 : decode cY1_transposeAll 23 = .ok (.bipush 64, 2) := by decide +kernel
theorem dY1_transposeAll_25 : decode cY1_transposeAll 25 = .ok (.if_icmp .ge 44, 3) := by decide +kernel
theorem dY1_transposeAll_28 : decode cY1_transposeAll 28 = .ok (.aload_n 0, 1) := by decide +kernel
theorem dY1_transposeAll_29 : decode cY1_transposeAll 29 = .ok (.getfield 16, 3) := by decide +kernel
theorem dY1_transposeAll_32 : decode cY1_transposeAll 32 = .ok (.iload_n 2, 1) := by decide +kernel
theorem dY1_transposeAll_33 : decode cY1_transposeAll 33 = .ok (.iload_n 1, 1) := by decide +kernel
theorem dY1_transposeAll_34 : decode cY1_transposeAll 34 = .ok (.invokestatic 47, 3) := by decide +kernel
theorem dY1_transposeAll_37 : decode cY1_transposeAll 37 = .ok (.iload_n 3, 1) := by decide +kernel
theorem dY1_transposeAll_38 : decode cY1_transposeAll 38 = .ok (.iadd, 1) := by decide +kernel
theorem dY1_transposeAll_39 : decode cY1_transposeAll 39 = .ok (.aload_n 0, 1) := by decide +kernel
theorem dY1_transposeAll_40 : decode cY1_transposeAll 40 = .ok (.getfield 7, 3) := by decide +kernel
theorem dY1_transposeAll_43 : decode cY1_transposeAll 43 = .ok (.iload_n 1, 1) := by decide +kernel
theorem dY1_transposeAll_44 : decode cY1_transposeAll 44 = .ok (.iload_n 2, 1) := by decide +kernel
theorem dY1_transposeAll_45 : decode cY1_transposeAll 45 = .ok (.invokestatic 47, 3) := by decide +kernel
theorem dY1_transposeAll_48 : decode cY1_transposeAll 48 = .ok (.bipush 8, 2) := by decide +kernel
theorem dY1_transposeAll_50 : decode cY1_transposeAll 50 = .ok (.iload_n 3, 1) := by decide +kernel
theorem dY1_transposeAll_51 : decode cY1_transposeAll 51 = .ok (.bipush 8, 2) := by decide +kernel
theorem dY1_transposeAll_53 : decode cY1_transposeAll 53 = .ok (.irem, 1) := by decide +kernel
theorem dY1_transposeAll_54 : decode cY1_transposeAll 54 = .ok (.imul, 1) := by decide +kernel
theorem dY1_transposeAll_55 : decode cY1_transposeAll 55 = .ok (.iadd, 1) := by decide +kernel
theorem dY1_transposeAll_56 : decode cY1_transposeAll 56 = .ok (.iload_n 3, 1) := by decide +kernel
theorem dY1_transposeAll_57 : decode cY1_transposeAll 57 = .ok (.bipush 8, 2) := by decide +kernel
theorem dY1_transposeAll_59 : decode cY1_transposeAll 59 = .ok (.idiv, 1) := by decide +kernel
theorem dY1_transposeAll_60 : decode cY1_transposeAll 60 = .ok (.iadd, 1) := by decide +kernel
theorem dY1_transposeAll_61 : decode cY1_transposeAll 61 = .ok (.iaload, 1) := by decide +kernel
theorem dY1_transposeAll_62 : decode cY1_transposeAll 62 = .ok (.iastore, 1) := by decide +kernel
theorem dY1_transposeAll_63 : decode cY1_transposeAll 63 = .ok (.iinc 3 1, 3) := by decide +kernel
theorem dY1_transposeAll_66 : decode cY1_transposeAll 66 = .ok (.goto (-44), 3) := by decide +kernel
theorem dY1_transposeAll_69 : decode cY1_transposeAll 69 = .ok (.iinc 2 1, 3) := by decide +kernel
theorem dY1_transposeAll_72 : decode cY1_transposeAll 72 = .ok (.goto (-60), 3) := by decide +kernel
theorem dY1_transposeAll_75 : decode cY1_transposeAll 75 = .ok (.iinc 1 1, 3) := by decide +kernel
theorem dY1_transposeAll_78 : decode cY1_transposeAll 78 = .ok (.goto (-76), 3) := by decide +kernel
theorem dY1_transposeAll_81 : decode cY1_transposeAll 81 = .ok (.aload_n 0, 1) := by decide +kernel
theorem dY1_transposeAll_82 : decode cY1_transposeAll 82 = .ok (.aload_n 0, 1) := by decide +kernel
theorem dY1_transposeAll_83 : decode cY1_transposeAll 83 = .ok (.getfield 27, 3) := by decide +kernel
theorem dY1_transposeAll_86 : decode cY1_transposeAll 86 = .ok (.aload_n 0, 1) := by decide +kernel
theorem dY1_transposeAll_87 : decode cY1_transposeAll 87 = .ok (.getfield 23, 3) := by decide +kernel
theorem dY1_transposeAll_90 : decode cY1_transposeAll 90 = .ok (.invokevirtual 59, 3) := by decide +kernel
theorem dY1_transposeAll_93 : decode cY1_transposeAll 93 = .ok (.return_, 1) := by decide +kernel
theorem dY1_mirrorAll_0 : decode cY1_mirrorAll 0 = .ok (.iconst 0, 1) := by decide +kernel
theorem dY1_mirrorAll_1 : decode cY1_mirrorAll 1 = .ok (.istore_n 1, 1) := by decide +kernel
theorem dY1_mirrorAll_2 : decode cY1_mirrorAll 2 = .ok (.iload_n 1, 1) := by decide +kernel
theorem dY1_mirrorAll_3 : decode cY1_mirrorAll 3 = .ok (.aload_n 0, 1) := by decide +kernel
theorem dY1_mirrorAll_4 : decode cY1_mirrorAll 4 = .ok (.getfield 27, 3) := by decide +kernel
theorem dY1_mirrorAll_7 : decode cY1_mirrorAll 7 = .ok (.if_icmp .ge 87, 3) := by decide +kernel
theorem dY1_mirrorAll_10 : decode cY1_mirrorAll 10 = .ok (.iconst 0, 1) := by decide +kernel
theorem dY1_mirrorAll_11 : decode cY1_mirrorAll 11 = .ok (.istore_n 2, 1) := by decide +kernel
theorem dY1_mirrorAll_12 : decode cY1_mirrorAll 12 = .ok (.iload_n 2, 1) := by decide +kernel
theorem dY1_mirrorAll_13 : decode cY1_mirrorAll 13 = .ok (.aload_n 0, 1) := by decide +kernel
theorem dY1_mirrorAll_14 : decode cY1_mirrorAll 14 = .ok (.getfield 23, 3) := by decide +kernel
theorem dY1_mirrorAll_17 : decode cY1_mirrorAll 17 = .ok (.if_icmp .ge 71, 3) := by decide +kernel
theorem dY1_mirrorAll_20 : decode cY1_mirrorAll 20 = .ok (.iconst 0, 1) := by decide +kernel
theorem dY1_mirrorAll_21 : decode cY1_mirrorAll 21 = .ok (.istore_n 3, 1) := by decide +kernel
theorem dY1_mirrorAll_22 : decode cY1_mirrorAll 22 = .ok (.iload_n 3, 1) := by decide +kernel
theorem dY1_mirrorAll_23 : decode cY1_mirrorAll 23 = .ok (.bipush 64, 2) := by decide +kernel
theorem dY1_mirrorAll_25 : decode cY1_mirrorAll 25 = .ok (.if_icmp .ge 57, 3) := by decide +kernel
theorem dY1_mirrorAll_28 : decode cY1_mirrorAll 28 = .ok (.aload_n 0, 1) := by decide +kernel
theorem dY1_mirrorAll_29 : decode cY1_mirrorAll 29 = .ok (.getfield 7, 3) := by decide +kernel
theorem dY1_mirrorAll_32 : decode cY1_mirrorAll 32 = .ok (.aload_n 0, 1) := by decide +kernel
theorem dY1_mirrorAll_33 : decode cY1_mirrorAll 33 = .ok (.getfield 23, 3) := by decide +kernel
theorem dY1_mirrorAll_36 : decode cY1_mirrorAll 36 = .ok (.iconst 1, 1) := by decide +kernel
theorem dY1_mirrorAll_37 : decode cY1_mirrorAll 37 = .ok (.isub, 1) := by decide +kernel
theorem dY1_mirrorAll_38 : decode cY1_mirrorAll 38 = .ok (.iload_n 2, 1) := by decide +kernel
theorem dY1_mirrorAll_39 : decode cY1_mirrorAll 39 = .ok (.isub, 1) := by decide +kernel
theorem dY1_mirrorAll_40 : decode cY1_mirrorAll 40 = .ok (.iload_n 1, 1) := by decide +kernel
theorem dY1_mirrorAll_41 : decode cY1_mirrorAll 41 = .ok (.invokestatic 47, 3) := by decide +kernel
theorem dY1_mirrorAll_44 : decode cY1_mirrorAll 44 = .ok (.iload_n 3, 1) := by decide +kernel
theorem dY1_mirrorAll_45 : decode cY1_mirrorAll 45 = .ok (.iadd, 1) := by decide +kernel
theorem dY1_mirrorAll_46 : decode cY1_mirrorAll 46 = .ok (.iaload, 1) := by decide +kernel
theorem dY1_mirrorAll_47 : decode cY1_mirrorAll 47 = .ok (.istore 4, 2) := by decide +kernel
theorem dY1_mirrorAll_49 : decode cY1_mirrorAll 49 = .ok (.aload_n 0, 1) := by decide +kernel
theorem dY1_mirrorAll_50 : decode cY1_mirrorAll 50 = .ok (.getfield 16, 3) := by decide +kernel
theorem dY1_mirrorAll_53 : decode cY1_mirrorAll 53 = .ok (.iload_n 2, 1) := by decide +kernel
theorem dY1_mirrorAll_54 : decode cY1_mirrorAll 54 = .ok (.iload_n 1, 1) := by decide +kernel
theorem dY1_mirrorAll_55 : decode cY1_mirrorAll 55 = .ok (.invokestatic 47, 3) := by decide +kernel
theorem dY1_mirrorAll_58 : decode cY1_mirrorAll 58 = .ok (.iload_n 3, 1) := by decide +kernel
theorem dY1_mirrorAll_59 : decode cY1_mirrorAll 59 = .ok (.iadd, 1) := by decide +kernel
theorem dY1_mirrorAll_60 : decode cY1_mirrorAll 60 = .ok (.iload_n 3, 1) := by decide +kernel
theorem dY1_mirrorAll_61 : decode cY1_mirrorAll 61 = .ok (.iconst 2, 1) := by decide +kernel
theorem dY1_mirrorAll_62 : decode cY1_mirrorAll 62 = .ok (.irem, 1) := by decide +kernel
theorem dY1_mirrorAll_63 : decode cY1_mirrorAll 63 = .ok (.iconst 1, 1) := by decide +kernel
theorem dY1_mirrorAll_64 : decode cY1_mirrorAll 64 = .ok (.if_icmp .ne 9, 3) := by decide +kernel
theorem dY1_mirrorAll_67 : decode cY1_mirrorAll 67 = .ok (.iload 4, 2) := by decide +kernel
theorem dY1_mirrorAll_69 : decode cY1_mirrorAll 69 = .ok (.ineg, 1) := by decide +kernel
theorem dY1_mirrorAll_70 : decode cY1_mirrorAll 70 = .ok (.goto 5, 3) := by decide +kernel
theorem dY1_mirrorAll_73 : decode cY1_mirrorAll 73 = .ok (.iload 4, 2) := by decide +kernel
theorem dY1_mirrorAll_75 : decode cY1_mirrorAll 75 = .ok (.iastore, 1) := by decide +kernel
theorem dY1_mirrorAll_76 : decode cY1_mirrorAll 76 = .ok (.iinc 3 1, 3) := by decide +kernel
theorem dY1_mirrorAll_79 : decode cY1_mirrorAll 79 = .ok (.goto (-57), 3) := by decide +kernel
theorem dY1_mirrorAll_82 : decode cY1_mirrorAll 82 = .ok (.iinc 2 1, 3) := by decide +kernel
theorem dY1_mirrorAll_85 : decode cY1_mirrorAll 85 = .ok (.goto (-73), 3) := by decide +kernel
theorem dY1_mirrorAll_88 : decode cY1_mirrorAll 88 = .ok (.iinc 1 1, 3) := by decide +kernel
theorem dY1_mirrorAll_91 : decode cY1_mirrorAll 91 = .ok (.goto (-89), 3) := by decide +kernel
theorem dY1_mirrorAll_94 : decode cY1_mirrorAll 94 = .ok (.aload_n 0, 1) := by decide +kernel
theorem dY1_mirrorAll_95 : decode cY1_mirrorAll 95 = .ok (.aload_n 0, 1) := by decide +kernel
theorem dY1_mirrorAll_96 : decode cY1_mirrorAll 96 = .ok (.getfield 23, 3) := by decide +kernel
theorem dY1_mirrorAll_99 : decode cY1_mirrorAll 99 = .ok (.aload_n 0, 1) := by decide +kernel
theorem dY1_mirrorAll_100 : decode cY1_mirrorAll 100 = .ok (.getfield 27, 3) := by decide +kernel
theorem dY1_mirrorAll_103 : decode cY1_mirrorAll 103 = .ok (.invokevirtual 59, 3) := by decide +kernel
theorem dY1_mirrorAll_106 : decode cY1_mirrorAll 106 = .ok (.return_, 1) := by decide +kernel
theorem dY1_flipAll_0 : decode cY1_flipAll 0 = .ok (.iconst 0, 1) := by decide +kernel
theorem dY1_flipAll_1 : decode cY1_flipAll 1 = .ok (.istore_n 1, 1) := by decide +kernel
theorem dY1_flipAll_2 : decode cY1_flipAll 2 = .ok (.iload_n 1, 1) := by decide +kernel
theorem dY1_flipAll_3 : decode cY1_flipAll 3 = .ok (.aload_n 0, 1) := by decide +kernel
theorem dY1_flipAll_4 : decode cY1_flipAll 4 = .ok (.getfield 27, 3) := by decide +kernel
theorem dY1_flipAll_7 : decode cY1_flipAll 7 = .ok (.if_icmp .ge 90, 3) := by decide +kernel
theorem dY1_flipAll_10 : decode cY1_flipAll 10 = .ok (.iconst 0, 1) := by decide +kernel
theorem dY1_flipAll_11 : decode cY1_flipAll 11 = .ok (.istore_n 2, 1) := by decide +kernel
theorem dY1_flipAll_12 : decode cY1_flipAll 12 = .ok (.iload_n 2, 1) := by decide +kernel
theorem dY1_flipAll_13 : decode cY1_flipAll 13 = .ok (.aload_n 0, 1) := by decide +kernel
theorem dY1_flipAll_14 : decode cY1_flipAll 14 = .ok (.getfield 23, 3) := by decide +kernel
theorem dY1_flipAll_17 : decode cY1_flipAll 17 = .ok (.if_icmp .ge 74, 3) := by decide +kernel
theorem dY1_flipAll_20 : decode cY1_flipAll 20 = .ok (.iconst 0, 1) := by decide +kernel
theorem dY1_flipAll_21 : decode cY1_flipAll 21 = .ok (.istore_n 3, 1) := by decide +kernel
theorem dY1_flipAll_22 : decode cY1_flipAll 22 = .ok (.iload_n 3, 1) := by decide +kernel
theorem dY1_flipAll_23 : decode cY1_flipAll 23 = .ok (.bipush 64, 2) := by decide +kernel
theorem dY1_flipAll_25 : decode cY1_flipAll 25 = .ok (.if_icmp .ge 60, 3) := by decide +kernel
theorem dY1_flipAll_28 : decode cY1_flipAll 28 = .ok (.aload_n 0, 1) := by decide +kernel
theorem dY1_flipAll_29 : decode cY1_flipAll 29 = .ok (.getfield 7, 3) := by decide +kernel
theorem dY1_flipAll_32 : decode cY1_flipAll 32 = .ok (.iload_n 2, 1) := by decide +kernel
theorem dY1_flipAll_33 : decode cY1_flipAll 33 = .ok (.aload_n 0, 1) := by decide +kernel
theorem dY1_flipAll_34 : decode cY1_flipAll 34 = .ok (.getfield 27, 3) := by decide +kernel
theorem dY1_flipAll_37 : decode cY1_flipAll 37 = .ok (.iconst 1, 1) := by decide +kernel
theorem dY1_flipAll_38 : decode cY1_flipAll 38 = .ok (.isub, 1) := by decide +kernel
theorem dY1_flipAll_39 : decode cY1_flipAll 39 = .ok (.iload_n 1, 1) := by decide +kernel
theorem dY1_flipAll_40 : decode cY1_flipAll 40 = .ok (.isub, 1) := by decide +kernel
theorem dY1_flipAll_41 : decode cY1_flipAll 41 = .ok (.invokestatic 47, 3) := by decide +kernel
theorem dY1_flipAll_44 : decode cY1_flipAll 44 = .ok (.iload_n 3, 1) := by decide +kernel
theorem dY1_flipAll_45 : decode cY1_flipAll 45 = .ok (.iadd, 1) := by decide +kernel
theorem dY1_flipAll_46 : decode cY1_flipAll 46 = .ok (.iaload, 1) := by decide +kernel
theorem dY1_flipAll_47 : decode cY1_flipAll 47 = .ok (.istore 4, 2) := by decide +kernel
theorem dY1_flipAll_49 : decode cY1_flipAll 49 = .ok (.aload_n 0, 1) := by decide +kernel
theorem dY1_flipAll_50 : decode cY1_flipAll 50 = .ok (.getfield 16, 3) := by decide +kernel
theorem dY1_flipAll_53 : decode cY1_flipAll 53 = .ok (.iload_n 2, 1) := by decide +kernel
theorem dY1_flipAll_54 : decode cY1_flipAll 54 = .ok (.iload_n 1, 1) := by decide +kernel
theorem dY1_flipAll_55 : decode cY1_flipAll 55 = .ok (.invokestatic 47, 3) := by decide +kernel
theorem dY1_flipAll_58 : decode cY1_flipAll 58 = .ok (.iload_n 3, 1) := by decide +kernel
theorem dY1_flipAll_59 : decode cY1_flipAll 59 = .ok (.iadd, 1) := by decide +kernel
theorem dY1_flipAll_60 : decode cY1_flipAll 60 = .ok (.iload_n 3, 1) := by decide +kernel
theorem dY1_flipAll_61 : decode cY1_flipAll 61 = .ok (.bipush 8, 2) := by decide +kernel
theorem dY1_flipAll_63 : decode cY1_flipAll 63 = .ok (.idiv, 1) := by decide +kernel
theorem dY1_flipAll_64 : decode cY1_flipAll 64 = .ok (.iconst 2, 1) := by decide +kernel
theorem dY1_flipAll_65 : decode cY1_flipAll 65 = .ok (.irem, 1) := by decide +kernel
theorem dY1_flipAll_66 : decode cY1_flipAll 66 = .ok (.iconst 1, 1) := by decide +kernel
theorem dY1_flipAll_67 : decode cY1_flipAll 67 = .ok (.if_icmp .ne 9, 3) := by decide +kernel
theorem dY1_flipAll_70 : decode cY1_flipAll 70 = .ok (.iload 4, 2) := by decide +kernel
theorem dY1_flipAll_72 : decode cY1_flipAll 72 = .ok (.ineg, 1) := by decide +kernel
theorem dY1_flipAll_73 : decode cY1_flipAll 73 = .ok (.goto 5, 3) := by decide +kernel
theorem dY1_flipAll_76 : decode cY1_flipAll 76 = .ok (.iload 4, 2) := by decide +kernel
theorem dY1_flipAll_78 : decode cY1_flipAll 78 = .ok (.iastore, 1) := by decide +kernel
theorem dY1_flipAll_79 : decode cY1_flipAll 79 = .ok (.iinc 3 1, 3) := by decide +kernel
theorem dY1_flipAll_82 : decode cY1_flipAll 82 = .ok (.goto (-60), 3) := by decide +kernel
theorem dY1_flipAll_85 : decode cY1_flipAll 85 = .ok (.iinc 2 1, 3) := by decide +kernel
theorem dY1_flipAll_88 : decode cY1_flipAll 88 = .ok (.goto (-76), 3) := by decide +kernel
theorem dY1_flipAll_91 : decode cY1_flipAll 91 = .ok (.iinc 1 1, 3) := by decide +kernel
theorem dY1_flipAll_94 : decode cY1_flipAll 94 = .ok (.goto (-92), 3) := by decide +kernel
theorem dY1_flipAll_97 : decode cY1_flipAll 97 = .ok (.aload_n 0, 1) := by decide +kernel
theorem dY1_flipAll_98 : decode cY1_flipAll 98 = .ok (.aload_n 0, 1) := by decide +kernel
theorem dY1_flipAll_99 : decode cY1_flipAll 99 = .ok (.getfield 23, 3) := by decide +kernel
theorem dY1_flipAll_102 : decode cY1_flipAll 102 = .ok (.aload_n 0, 1) := by decide +kernel
theorem dY1_flipAll_103 : decode cY1_flipAll 103 = .ok (.getfield 27, 3) := by decide +kernel
theorem dY1_flipAll_106 : decode cY1_flipAll 106 = .ok (.invokevirtual 59, 3) := by decide +kernel
theorem dY1_flipAll_109 : decode cY1_flipAll 109 = .ok (.return_, 1) := by decide +kernel
theorem dY1_transpose_0 : decode cY1_transpose 0 = .ok (.aload_n 0, 1) := by decide +kernel
theorem dY1_transpose_1 : decode cY1_transpose 1 = .ok (.iconst 0, 1) := by decide +kernel
theorem dY1_transpose_2 : decode cY1_transpose 2 = .ok (.putfield 36, 3) := by decide +kernel
theorem dY1_transpose_5 : decode cY1_transpose 5 = .ok (.aload_n 0, 1) := by decide +kernel
theorem dY1_transpose_6 : decode cY1_transpose 6 = .ok (.invokevirtual 63, 3) := by decide +kernel
theorem dY1_transpose_9 : decode cY1_transpose 9 = .ok (.return_, 1) := by decide +kernel
theorem dY1_mirror_0 : decode cY1_mirror 0 = .ok (.aload_n 0, 1) := by decide +kernel
theorem dY1_mirror_1 : decode cY1_mirror 1 = .ok (.iconst 0, 1) := by decide +kernel
theorem dY1_mirror_2 : decode cY1_mirror 2 = .ok (.putfield 36, 3) := by decide +kernel
theorem dY1_mirror_5 : decode cY1_mirror 5 = .ok (.aload_n 0, 1) := by decide +kernel
theorem dY1_mirror_6 : decode cY1_mirror 6 = .ok (.invokevirtual 66, 3) := by decide +kernel
theorem dY1_mirror_9 : decode cY1_mirror 9 = .ok (.return_, 1) := by decide +kernel
theorem dY1_flip_0 : decode cY1_flip 0 = .ok (.aload_n 0, 1) := by decide +kernel
theorem dY1_flip_1 : decode cY1_flip 1 = .ok (.iconst 0, 1) := by decide +kernel
theorem dY1_flip_2 : decode cY1_flip 2 = .ok (.putfield 36, 3) := by decide +kernel
theorem dY1_flip_5 : decode cY1_flip 5 = .ok (.aload_n 0, 1) := by decide +kernel
theorem dY1_flip_6 : decode cY1_flip 6 = .ok (.invokevirtual 69, 3) := by decide +kernel
theorem dY1_flip_9 : decode cY1_flip 9 = .ok (.return_, 1) := by decide +kernel
theorem dY1_turn_0 : decode cY1_turn 0 = .ok (.aload_n 0, 1) := by decide +kernel
theorem dY1_turn_1 : decode cY1_turn 1 = .ok (.iconst 0, 1) := by decide +kernel
theorem dY1_turn_2 : decode cY1_turn 2 = .ok (.putfield 36, 3) := by decide +kernel
theorem dY1_turn_5 : decode cY1_turn 5 = .ok (.iload_n 1, 1) := by decide +kernel
theorem dY1_turn_6 : decode cY1_turn 6 = .ok (.iconst 4, 1) := by decide +kernel
theorem dY1_turn_7 : decode cY1_turn 7 = .ok (.irem, 1) := by decide +kernel
theorem dY1_turn_8 : decode cY1_turn 8 = .ok (.iconst 4, 1) := by decide +kernel
theorem dY1_turn_9 : decode cY1_turn 9 = .ok (.iadd, 1) := by decide +kernel
theorem dY1_turn_10 : decode cY1_turn 10 = .ok (.iconst 4, 1) := by decide +kernel
theorem dY1_turn_11 : decode cY1_turn 11 = .ok (.irem, 1) := by decide +kernel
theorem dY1_turn_12 : decode cY1_turn 12 = .ok (.istore_n 2, 1) := by decide +kernel
theorem dY1_turn_13 : decode cY1_turn 13 = .ok (.iconst 0, 1) := by decide +kernel
theorem dY1_turn_14 : decode cY1_turn 14 = .ok (.istore_n 3, 1) := by decide +kernel
theorem dY1_turn_15 : decode cY1_turn 15 = .ok (.iload_n 3, 1) := by decide +kernel
theorem dY1_turn_16 : decode cY1_turn 16 = .ok (.iload_n 2, 1) := by decide +kernel
theorem dY1_turn_17 : decode cY1_turn 17 = .ok (.if_icmp .ge 17, 3) := by decide +kernel
theorem dY1_turn_20 : decode cY1_turn 20 = .ok (.aload_n 0, 1) := by decide +kernel
theorem dY1_turn_21 : decode cY1_turn 21 = .ok (.invokevirtual 63, 3) := by decide +kernel
theorem dY1_turn_24 : decode cY1_turn 24 = .ok (.aload_n 0, 1) := by decide +kernel
theorem dY1_turn_25 : decode cY1_turn 25 = .ok (.invokevirtual 66, 3) := by decide +kernel
theorem dY1_turn_28 : decode cY1_turn 28 = .ok (.iinc 3 1, 3) := by decide +kernel
theorem dY1_turn_31 : decode cY1_turn 31 = .ok (.goto (-16), 3) := by decide +kernel
theorem dY1_turn_34 : decode cY1_turn 34 = .ok (.return_, 1) := by decide +kernel
theorem dY1_crop_0 : decode cY1_crop 0 = .ok (.aload_n 0, 1) := by decide +kernel
theorem dY1_crop_1 : decode cY1_crop 1 = .ok (.iconst 0, 1) := by decide +kernel
theorem dY1_crop_2 : decode cY1_crop 2 = .ok (.putfield 36, 3) := by decide +kernel
theorem dY1_crop_5 : decode cY1_crop 5 = .ok (.iload_n 1, 1) := by decide +kernel
theorem dY1_crop_6 : decode cY1_crop 6 = .ok (.ifCond .lt 56, 3) := by decide +kernel
theorem dY1_crop_9 : decode cY1_crop 9 = .ok (.iload_n 2, 1) := by decide +kernel
theorem dY1_crop_10 : decode cY1_crop 10 = .ok (.ifCond .lt 52, 3) := by decide +kernel
theorem dY1_crop_13 : decode cY1_crop 13 = .ok (.iload_n 3, 1) := by decide +kernel
theorem dY1_crop_14 : decode cY1_crop 14 = .ok (.iconst 1, 1) := by decide +kernel
theorem dY1_crop_15 : decode cY1_crop 15 = .ok (.if_icmp .lt 47, 3) := by decide +kernel
theorem dY1_crop_18 : decode cY1_crop 18 = .ok (.iload 4, 2) := by decide +kernel
theorem dY1_crop_20 : decode cY1_crop 20 = .ok (.iconst 1, 1) := by decide +kernel
theorem dY1_crop_21 : decode cY1_crop 21 = .ok (.if_icmp .lt 41, 3) := by decide +kernel
theorem dY1_crop_24 : decode cY1_crop 24 = .ok (.iload_n 3, 1) := by decide +kernel
theorem dY1_crop_25 : decode cY1_crop 25 = .ok (.aload_n 0, 1) := by decide +kernel
theorem dY1_crop_26 : decode cY1_crop 26 = .ok (.getfield 23, 3) := by decide +kernel
theorem dY1_crop_29 : decode cY1_crop 29 = .ok (.if_icmp .gt 33, 3) := by decide +kernel
theorem dY1_crop_32 : decode cY1_crop 32 = .ok (.iload 4, 2) := by decide +kernel
theorem dY1_crop_34 : decode cY1_crop 34 = .ok (.aload_n 0, 1) := by decide +kernel
theorem dY1_crop_35 : decode cY1_crop 35 = .ok (.getfield 27, 3) := by decide +kernel
theorem dY1_crop_38 : decode cY1_crop 38 = .ok (.if_icmp .gt 24, 3) := by decide +kernel
theorem dY1_crop_41 : decode cY1_crop 41 = .ok (.iload_n 1, 1) := by decide +kernel
theorem dY1_crop_42 : decode cY1_crop 42 = .ok (.aload_n 0, 1) := by decide +kernel
theorem dY1_crop_43 : decode cY1_crop 43 = .ok (.getfield 23, 3) := by decide +kernel
theorem dY1_crop_46 : decode cY1_crop 46 = .ok (.iload_n 3, 1) := by decide +kernel
theorem dY1_crop_47 : decode cY1_crop 47 = .ok (.isub, 1) := by decide +kernel
theorem dY1_crop_48 : decode cY1_crop 48 = .ok (.if_icmp .gt 14, 3) := by decide +kernel
theorem dY1_crop_51 : decode cY1_crop 51 = .ok (.iload_n 2, 1) := by decide +kernel
theorem dY1_crop_52 : decode cY1_crop 52 = .ok (.aload_n 0, 1) := by decide +kernel
theorem dY1_crop_53 : decode cY1_crop 53 = .ok (.getfield 27, 3) := by decide +kernel
theorem dY1_crop_56 : decode cY1_crop 56 = .ok (.iload 4, 2) := by decide +kernel
theorem dY1_crop_58 : decode cY1_crop 58 = .ok (.isub, 1) := by decide +kernel
theorem dY1_crop_59 : decode cY1_crop 59 = .ok (.if_icmp .le 5, 3) := by decide +kernel
theorem dY1_crop_62 : decode cY1_crop 62 = .ok (.iconst 0, 1) := by decide +kernel
theorem dY1_crop_63 : decode cY1_crop 63 = .ok (.ireturn, 1) := by decide +kernel
theorem dY1_crop_64 : decode cY1_crop 64 = .ok (.iconst 0, 1) := by decide +kernel
theorem dY1_crop_65 : decode cY1_crop 65 = .ok (.istore 5, 2) := by decide +kernel
theorem dY1_crop_67 : decode cY1_crop 67 = .ok (.iload 5, 2) := by decide +kernel
theorem dY1_crop_69 : decode cY1_crop 69 = .ok (.iload 4, 2) := by decide +kernel
theorem dY1_crop_71 : decode cY1_crop 71 = .ok (.if_icmp .ge 74, 3) := by decide +kernel
theorem dY1_crop_74 : decode cY1_crop 74 = .ok (.iconst 0, 1) := by decide +kernel
theorem dY1_crop_75 : decode cY1_crop 75 = .ok (.istore 6, 2) := by decide +kernel
theorem dY1_crop_77 : decode cY1_crop 77 = .ok (.iload 6, 2) := by decide +kernel
theorem dY1_crop_79 : decode cY1_crop 79 = .ok (.iload_n 3, 1) := by decide +kernel
theorem dY1_crop_80 : decode cY1_crop 80 = .ok (.if_icmp .ge 59, 3) := by decide +kernel
theorem dY1_crop_83 : decode cY1_crop 83 = .ok (.iconst 0, 1) := by decide +kernel
theorem dY1_crop_84 : decode cY1_crop 84 = .ok (.istore 7, 2) := by decide +kernel
theorem dY1_crop_86 : decode cY1_crop 86 = .ok (.iload 7, 2) := by decide +kernel
theorem dY1_crop_88 : decode cY1_crop 88 = .ok (.bipush 64, 2) := by decide +kernel
theorem dY1_crop_90 : decode cY1_crop 90 = .ok (.if_icmp .ge 43, 3) := by decide +kernel
theorem dY1_crop_93 : decode cY1_crop 93 = .ok (.aload_n 0, 1) := by decide +kernel
theorem dY1_crop_94 : decode cY1_crop 94 = .ok (.getfield 16, 3) := by decide +kernel
theorem dY1_crop_97 : decode cY1_crop 97 = .ok (.iload 6, 2) := by decide +kernel
theorem dY1_crop_99 : decode cY1_crop 99 = .ok (.iload 5, 2) := by decide +kernel
theorem dY1_crop_101 : decode cY1_crop 101 = .ok (.invokestatic 47, 3) := by decide +kernel
theorem dY1_crop_104 : decode cY1_crop 104 = .ok (.iload 7, 2) := by decide +kernel
theorem dY1_crop_106 : decode cY1_crop 106 = .ok (.iadd, 1) := by decide +kernel
theorem dY1_crop_107 : decode cY1_crop 107 = .ok (.aload_n 0, 1) := by decide +kernel
theorem dY1_crop_108 : decode cY1_crop 108 = .ok (.getfield 7, 3) := by decide +kernel
theorem dY1_crop_111 : decode cY1_crop 111 = .ok (.iload_n 1, 1) := by decide +kernel
theorem dY1_crop_112 : decode cY1_crop 112 = .ok (.iload 6, 2) := by decide +kernel
theorem dY1_crop_114 : decode cY1_crop 114 = .ok (.iadd, 1) := by decide +kernel
theorem dY1_crop_115 : decode cY1_crop 115 = .ok (.iload_n 2, 1) := by decide +kernel
theorem dY1_crop_116 : decode cY1_crop 116 = .ok (.iload 5, 2) := by decide +kernel
theorem dY1_crop_118 : decode cY1_crop 118 = .ok (.iadd, 1) := by decide +kernel
theorem dY1_crop_119 : decode cY1_crop 119 = .ok (.invokestatic 47, 3) := by decide +kernel
theorem dY1_crop_122 : decode cY1_crop 122 = .ok (.iload 7, 2) := by decide +kernel
theorem dY1_crop_124 : decode cY1_crop 124 = .ok (.iadd, 1) := by decide +kernel
theorem dY1_crop_125 : decode cY1_crop 125 = .ok (.iaload, 1) := by decide +kernel
theorem dY1_crop_126 : decode cY1_crop 126 = .ok (.iastore, 1) := by decide +kernel
theorem dY1_crop_127 : decode cY1_crop 127 = .ok (.iinc 7 1, 3) := by decide +kernel
theorem dY1_crop_130 : decode cY1_crop 130 = .ok (.goto (-44), 3) := by decide +kernel
theorem dY1_crop_133 : decode cY1_crop 133 = .ok (.iinc 6 1, 3) := by decide +kernel
theorem dY1_crop_136 : decode cY1_crop 136 = .ok (.goto (-59), 3) := by decide +kernel
theorem dY1_crop_139 : decode cY1_crop 139 = .ok (.iinc 5 1, 3) := by decide +kernel
theorem dY1_crop_142 : decode cY1_crop 142 = .ok (.goto (-75), 3) := by decide +kernel
theorem dY1_crop_145 : decode cY1_crop 145 = .ok (.aload_n 0, 1) := by decide +kernel
theorem dY1_crop_146 : decode cY1_crop 146 = .ok (.iload_n 3, 1) := by decide +kernel
theorem dY1_crop_147 : decode cY1_crop 147 = .ok (.iload 4, 2) := by decide +kernel
theorem dY1_crop_149 : decode cY1_crop 149 = .ok (.invokevirtual 59, 3) := by decide +kernel
theorem dY1_crop_152 : decode cY1_crop 152 = .ok (.iconst 1, 1) := by decide +kernel
theorem dY1_crop_153 : decode cY1_crop 153 = .ok (.ireturn, 1) := by decide +kernel
theorem dY1_swap_0 : decode cY1_swap 0 = .ok (.aload_n 0, 1) := by decide +kernel
theorem dY1_swap_1 : decode cY1_swap 1 = .ok (.iconst 0, 1) := by decide +kernel
theorem dY1_swap_2 : decode cY1_swap 2 = .ok (.putfield 36, 3) := by decide +kernel
theorem dY1_swap_5 : decode cY1_swap 5 = .ok (.aload_n 0, 1) := by decide +kernel
theorem dY1_swap_6 : decode cY1_swap 6 = .ok (.iload_n 1, 1) := by decide +kernel
theorem dY1_swap_7 : decode cY1_swap 7 = .ok (.iload_n 2, 1) := by decide +kernel
theorem dY1_swap_8 : decode cY1_swap 8 = .ok (.invokevirtual 39, 3) := by decide +kernel
theorem dY1_swap_11 : decode cY1_swap 11 = .ok (.ifCond .eq 13, 3) := by decide +kernel
theorem dY1_swap_14 : decode cY1_swap 14 = .ok (.aload_n 0, 1) := by decide +kernel
theorem dY1_swap_15 : decode cY1_swap 15 = .ok (.iload_n 3, 1) := by decide +kernel
theorem dY1_swap_16 : decode cY1_swap 16 = .ok (.iload 4, 2) := by decide +kernel
theorem dY1_swap_18 : decode cY1_swap 18 = .ok (.invokevirtual 39, 3) := by decide +kernel
theorem dY1_swap_21 : decode cY1_swap 21 = .ok (.ifCond .ne 5, 3) := by decide +kernel
theorem dY1_swap_24 : decode cY1_swap 24 = .ok (.iconst 0, 1) := by decide +kernel
theorem dY1_swap_25 : decode cY1_swap 25 = .ok (.ireturn, 1) := by decide +kernel
theorem dY1_swap_26 : decode cY1_swap 26 = .ok (.iconst 0, 1) := by decide +kernel
theorem dY1_swap_27 : decode cY1_swap 27 = .ok (.istore 5, 2) := by decide +kernel
theorem dY1_swap_29 : decode cY1_swap 29 = .ok (.iload 5, 2) := by decide +kernel
theorem dY1_swap_31 : decode cY1_swap 31 = .ok (.bipush 64, 2) := by decide +kernel
theorem dY1_swap_33 : decode cY1_swap 33 = .ok (.if_icmp .ge 67, 3) := by decide +kernel
theorem dY1_swap_36 : decode cY1_swap 36 = .ok (.aload_n 0, 1) := by decide +kernel
theorem dY1_swap_37 : decode cY1_swap 37 = .ok (.getfield 7, 3) := by decide +kernel
theorem dY1_swap_40 : decode cY1_swap 40 = .ok (.iload_n 1, 1) := by decide +kernel
theorem dY1_swap_41 : decode cY1_swap 41 = .ok (.iload_n 2, 1) := by decide +kernel
theorem dY1_swap_42 : decode cY1_swap 42 = .ok (.invokestatic 47, 3) := by decide +kernel
theorem dY1_swap_45 : decode cY1_swap 45 = .ok (.iload 5, 2) := by decide +kernel
theorem dY1_swap_47 : decode cY1_swap 47 = .ok (.iadd, 1) := by decide +kernel
theorem dY1_swap_48 : decode cY1_swap 48 = .ok (.iaload, 1) := by decide +kernel
theorem dY1_swap_49 : decode cY1_swap 49 = .ok (.istore 6, 2) := by decide +kernel
theorem dY1_swap_51 : decode cY1_swap 51 = .ok (.aload_n 0, 1) := by decide +kernel
theorem dY1_swap_52 : decode cY1_swap 52 = .ok (.getfield 7, 3) := by decide +kernel
theorem dY1_swap_55 : decode cY1_swap 55 = .ok (.iload_n 1, 1) := by decide +kernel
theorem dY1_swap_56 : decode cY1_swap 56 = .ok (.iload_n 2, 1) := by decide +kernel
theorem dY1_swap_57 : decode cY1_swap 57 = .ok (.invokestatic 47, 3) := by decide +kernel
theorem dY1_swap_60 : decode cY1_swap 60 = .ok (.iload 5, 2) := by decide +kernel
theorem dY1_swap_62 : decode cY1_swap 62 = .ok (.iadd, 1) := by decide +kernel
theorem dY1_swap_63 : decode cY1_swap 63 = .ok (.aload_n 0, 1) := by decide +kernel
theorem dY1_swap_64 : decode cY1_swap 64 = .ok (.getfield 7, 3) := by decide +kernel
theorem dY1_swap_67 : decode cY1_swap 67 = .ok (.iload_n 3, 1) := by decide +kernel
theorem dY1_swap_68 : decode cY1_swap 68 = .ok (.iload 4, 2) := by decide +kernel
theorem dY1_swap_70 : decode cY1_swap 70 = .ok (.invokestatic 47, 3) := by decide +kernel
theorem dY1_swap_73 : decode cY1_swap 73 = .ok (.iload 5, 2) := by decide +kernel
theorem dY1_swap_75 : decode cY1_swap 75 = .ok (.iadd, 1) := by decide +kernel
theorem dY1_swap_76 : decode cY1_swap 76 = .ok (.iaload, 1) := by decide +kernel
theorem dY1_swap_77 : decode cY1_swap 77 = .ok (.iastore, 1) := by decide +kernel
theorem dY1_swap_78 : decode cY1_swap 78 = .ok (.aload_n 0, 1) := by decide +kernel
theorem dY1_swap_79 : decode cY1_swap 79 = .ok (.getfield 7, 3) := by decide +kernel
theorem dY1_swap_82 : decode cY1_swap 82 = .ok (.iload_n 3, 1) := by decide +kernel
theorem dY1_swap_83 : decode cY1_swap 83 = .ok (.iload 4, 2) := by decide +kernel
theorem dY1_swap_85 : decode cY1_swap 85 = .ok (.invokestatic 47, 3) := by decide +kernel
theorem dY1_swap_88 : decode cY1_swap 88 = .ok (.iload 5, 2) := by decide +kernel
theorem dY1_swap_90 : decode cY1_swap 90 = .ok (.iadd, 1) := by decide +kernel
theorem dY1_swap_91 : decode cY1_swap 91 = .ok (.iload 6, 2) := by decide +kernel
theorem dY1_swap_93 : decode cY1_swap 93 = .ok (.iastore, 1) := by decide +kernel
theorem dY1_swap_94 : decode cY1_swap 94 = .ok (.iinc 5 1, 3) := by decide +kernel
theorem dY1_swap_97 : decode cY1_swap 97 = .ok (.goto (-68), 3) := by decide +kernel
theorem dY1_swap_100 : decode cY1_swap 100 = .ok (.iconst 1, 1) := by decide +kernel
theorem dY1_swap_101 : decode cY1_swap 101 = .ok (.ireturn, 1) := by decide +kernel
theorem dY1_keep_0 : decode cY1_keep 0 = .ok (.aload_n 0, 1) := by decide +kernel
theorem dY1_keep_1 : decode cY1_keep 1 = .ok (.iconst 0, 1) := by decide +kernel
theorem dY1_keep_2 : decode cY1_keep 2 = .ok (.putfield 36, 3) := by decide +kernel
theorem dY1_keep_5 : decode cY1_keep 5 = .ok (.aload_n 0, 1) := by decide +kernel
theorem dY1_keep_6 : decode cY1_keep 6 = .ok (.aload_n 0, 1) := by decide +kernel
theorem dY1_keep_7 : decode cY1_keep 7 = .ok (.getfield 23, 3) := by decide +kernel
theorem dY1_keep_10 : decode cY1_keep 10 = .ok (.putfield 30, 3) := by decide +kernel
theorem dY1_keep_13 : decode cY1_keep 13 = .ok (.aload_n 0, 1) := by decide +kernel
theorem dY1_keep_14 : decode cY1_keep 14 = .ok (.aload_n 0, 1) := by decide +kernel
theorem dY1_keep_15 : decode cY1_keep 15 = .ok (.getfield 27, 3) := by decide +kernel
theorem dY1_keep_18 : decode cY1_keep 18 = .ok (.putfield 33, 3) := by decide +kernel
theorem dY1_keep_21 : decode cY1_keep 21 = .ok (.iconst 0, 1) := by decide +kernel
theorem dY1_keep_22 : decode cY1_keep 22 = .ok (.istore_n 1, 1) := by decide +kernel
theorem dY1_keep_23 : decode cY1_keep 23 = .ok (.iload_n 1, 1) := by decide +kernel
theorem dY1_keep_24 : decode cY1_keep 24 = .ok (.sipush 4096, 3) := by decide +kernel
theorem dY1_keep_27 : decode cY1_keep 27 = .ok (.if_icmp .ge 21, 3) := by decide +kernel
theorem dY1_keep_30 : decode cY1_keep 30 = .ok (.aload_n 0, 1) := by decide +kernel
theorem dY1_keep_31 : decode cY1_keep 31 = .ok (.getfield 13, 3) := by decide +kernel
theorem dY1_keep_34 : decode cY1_keep 34 = .ok (.iload_n 1, 1) := by decide +kernel
theorem dY1_keep_35 : decode cY1_keep 35 = .ok (.aload_n 0, 1) := by decide +kernel
theorem dY1_keep_36 : decode cY1_keep 36 = .ok (.getfield 7, 3) := by decide +kernel
theorem dY1_keep_39 : decode cY1_keep 39 = .ok (.iload_n 1, 1) := by decide +kernel
theorem dY1_keep_40 : decode cY1_keep 40 = .ok (.iaload, 1) := by decide +kernel
theorem dY1_keep_41 : decode cY1_keep 41 = .ok (.iastore, 1) := by decide +kernel
theorem dY1_keep_42 : decode cY1_keep 42 = .ok (.iinc 1 1, 3) := by decide +kernel
theorem dY1_keep_45 : decode cY1_keep 45 = .ok (.goto (-22), 3) := by decide +kernel
theorem dY1_keep_48 : decode cY1_keep 48 = .ok (.return_, 1) := by decide +kernel
theorem dY1_restore_0 : decode cY1_restore 0 = .ok (.aload_n 0, 1) := by decide +kernel
theorem dY1_restore_1 : decode cY1_restore 1 = .ok (.iconst 0, 1) := by decide +kernel
theorem dY1_restore_2 : decode cY1_restore 2 = .ok (.putfield 36, 3) := by decide +kernel
theorem dY1_restore_5 : decode cY1_restore 5 = .ok (.aload_n 0, 1) := by decide +kernel
theorem dY1_restore_6 : decode cY1_restore 6 = .ok (.aload_n 0, 1) := by decide +kernel
theorem dY1_restore_7 : decode cY1_restore 7 = .ok (.getfield 30, 3) := by decide +kernel
theorem dY1_restore_10 : decode cY1_restore 10 = .ok (.putfield 23, 3) := by decide +kernel
theorem dY1_restore_13 : decode cY1_restore 13 = .ok (.aload_n 0, 1) := by decide +kernel
theorem dY1_restore_14 : decode cY1_restore 14 = .ok (.aload_n 0, 1) := by decide +kernel
theorem dY1_restore_15 : decode cY1_restore 15 = .ok (.getfield 33, 3) := by decide +kernel
theorem dY1_restore_18 : decode cY1_restore 18 = .ok (.putfield 27, 3) := by decide +kernel
theorem dY1_restore_21 : decode cY1_restore 21 = .ok (.iconst 0, 1) := by decide +kernel
theorem dY1_restore_22 : decode cY1_restore 22 = .ok (.istore_n 1, 1) := by decide +kernel
theorem dY1_restore_23 : decode cY1_restore 23 = .ok (.iload_n 1, 1) := by decide +kernel
theorem dY1_restore_24 : decode cY1_restore 24 = .ok (.sipush 4096, 3) := by decide +kernel
theorem dY1_restore_27 : decode cY1_restore 27 = .ok (.if_icmp .ge 21, 3) := by decide +kernel
theorem dY1_restore_30 : decode cY1_restore 30 = .ok (.aload_n 0, 1) := by decide +kernel
theorem dY1_restore_31 : decode cY1_restore 31 = .ok (.getfield 7, 3) := by decide +kernel
theorem dY1_restore_34 : decode cY1_restore 34 = .ok (.iload_n 1, 1) := by decide +kernel
theorem dY1_restore_35 : decode cY1_restore 35 = .ok (.aload_n 0, 1) := by decide +kernel
theorem dY1_restore_36 : decode cY1_restore 36 = .ok (.getfield 13, 3) := by decide +kernel
theorem dY1_restore_39 : decode cY1_restore 39 = .ok (.iload_n 1, 1) := by decide +kernel
theorem dY1_restore_40 : decode cY1_restore 40 = .ok (.iaload, 1) := by decide +kernel
theorem dY1_restore_41 : decode cY1_restore 41 = .ok (.iastore, 1) := by decide +kernel
theorem dY1_restore_42 : decode cY1_restore 42 = .ok (.iinc 1 1, 3) := by decide +kernel
theorem dY1_restore_45 : decode cY1_restore 45 = .ok (.goto (-22), 3) := by decide +kernel
theorem dY1_restore_48 : decode cY1_restore 48 = .ok (.return_, 1) := by decide +kernel
theorem dY1_differ_0 : decode cY1_differ 0 = .ok (.aload_n 0, 1) := by decide +kernel
theorem dY1_differ_1 : decode cY1_differ 1 = .ok (.iconst 0, 1) := by decide +kernel
theorem dY1_differ_2 : decode cY1_differ 2 = .ok (.putfield 36, 3) := by decide +kernel
theorem dY1_differ_5 : decode cY1_differ 5 = .ok (.aload_n 0, 1) := by decide +kernel
theorem dY1_differ_6 : decode cY1_differ 6 = .ok (.getfield 23, 3) := by decide +kernel
theorem dY1_differ_9 : decode cY1_differ 9 = .ok (.aload_n 0, 1) := by decide +kernel
theorem dY1_differ_10 : decode cY1_differ 10 = .ok (.getfield 30, 3) := by decide +kernel
theorem dY1_differ_13 : decode cY1_differ 13 = .ok (.if_icmp .ne 14, 3) := by decide +kernel
theorem dY1_differ_16 : decode cY1_differ 16 = .ok (.aload_n 0, 1) := by decide +kernel
theorem dY1_differ_17 : decode cY1_differ 17 = .ok (.getfield 27, 3) := by decide +kernel
theorem dY1_differ_20 : decode cY1_differ 20 = .ok (.aload_n 0, 1) := by decide +kernel
theorem dY1_differ_21 : decode cY1_differ 21 = .ok (.getfield 33, 3) := by decide +kernel
theorem dY1_differ_24 : decode cY1_differ 24 = .ok (.if_icmp .eq 5, 3) := by decide +kernel
theorem dY1_differ_27 : decode cY1_differ 27 = .ok (.iconst (-1), 1) := by decide +kernel
theorem dY1_differ_28 : decode cY1_differ 28 = .ok (.ireturn, 1) := by decide +kernel
theorem dY1_differ_29 : decode cY1_differ 29 = .ok (.iconst 0, 1) := by decide +kernel
theorem dY1_differ_30 : decode cY1_differ 30 = .ok (.istore_n 1, 1) := by decide +kernel
theorem dY1_differ_31 : decode cY1_differ 31 = .ok (.iconst 0, 1) := by decide +kernel
theorem dY1_differ_32 : decode cY1_differ 32 = .ok (.istore_n 2, 1) := by decide +kernel
theorem dY1_differ_33 : decode cY1_differ 33 = .ok (.iload_n 2, 1) := by decide +kernel
theorem dY1_differ_34 : decode cY1_differ 34 = .ok (.aload_n 0, 1) := by decide +kernel
theorem dY1_differ_35 : decode cY1_differ 35 = .ok (.getfield 27, 3) := by decide +kernel
theorem dY1_differ_38 : decode cY1_differ 38 = .ok (.if_icmp .ge 78, 3) := by decide +kernel
theorem dY1_differ_41 : decode cY1_differ 41 = .ok (.iconst 0, 1) := by decide +kernel
theorem dY1_differ_42 : decode cY1_differ 42 = .ok (.istore_n 3, 1) := by decide +kernel
theorem dY1_differ_43 : decode cY1_differ 43 = .ok (.iload_n 3, 1) := by decide +kernel
theorem dY1_differ_44 : decode cY1_differ 44 = .ok (.aload_n 0, 1) := by decide +kernel
theorem dY1_differ_45 : decode cY1_differ 45 = .ok (.getfield 23, 3) := by decide +kernel
theorem dY1_differ_48 : decode cY1_differ 48 = .ok (.if_icmp .ge 62, 3) := by decide +kernel
theorem dY1_differ_51 : decode cY1_differ 51 = .ok (.iconst 0, 1) := by decide +kernel
theorem dY1_differ_52 : decode cY1_differ 52 = .ok (.istore 4, 2) := by decide +kernel
theorem dY1_differ_54 : decode cY1_differ 54 = .ok (.iload 4, 2) := by decide +kernel
theorem dY1_differ_56 : decode cY1_differ 56 = .ok (.bipush 64, 2) := by decide +kernel
theorem dY1_differ_58 : decode cY1_differ 58 = .ok (.if_icmp .ge 46, 3) := by decide +kernel
theorem dY1_differ_61 : decode cY1_differ 61 = .ok (.iload_n 1, 1) := by decide +kernel
theorem dY1_differ_62 : decode cY1_differ 62 = .ok (.aload_n 0, 1) := by decide +kernel
theorem dY1_differ_63 : decode cY1_differ 63 = .ok (.getfield 7, 3) := by decide +kernel
theorem dY1_differ_66 : decode cY1_differ 66 = .ok (.iload_n 3, 1) := by decide +kernel
theorem dY1_differ_67 : decode cY1_differ 67 = .ok (.iload_n 2, 1) := by decide +kernel
theorem dY1_differ_68 : decode cY1_differ 68 = .ok (.invokestatic 47, 3) := by decide +kernel
theorem dY1_differ_71 : decode cY1_differ 71 = .ok (.iload 4, 2) := by decide +kernel
theorem dY1_differ_73 : decode cY1_differ 73 = .ok (.iadd, 1) := by decide +kernel
theorem dY1_differ_74 : decode cY1_differ 74 = .ok (.iaload, 1) := by decide +kernel
theorem dY1_differ_75 : decode cY1_differ 75 = .ok (.aload_n 0, 1) := by decide +kernel
theorem dY1_differ_76 : decode cY1_differ 76 = .ok (.getfield 13, 3) := by decide +kernel
theorem dY1_differ_79 : decode cY1_differ 79 = .ok (.iload_n 3, 1) := by decide +kernel
theorem dY1_differ_80 : decode cY1_differ 80 = .ok (.iload_n 2, 1) := by decide +kernel
theorem dY1_differ_81 : decode cY1_differ 81 = .ok (.invokestatic 47, 3) := by decide +kernel
theorem dY1_differ_84 : decode cY1_differ 84 = .ok (.iload 4, 2) := by decide +kernel
theorem dY1_differ_86 : decode cY1_differ 86 = .ok (.iadd, 1) := by decide +kernel
theorem dY1_differ_87 : decode cY1_differ 87 = .ok (.iaload, 1) := by decide +kernel
theorem dY1_differ_88 : decode cY1_differ 88 = .ok (.if_icmp .eq 7, 3) := by decide +kernel
theorem dY1_differ_91 : decode cY1_differ 91 = .ok (.iconst 1, 1) := by decide +kernel
theorem dY1_differ_92 : decode cY1_differ 92 = .ok (.goto 4, 3) := by decide +kernel
theorem dY1_differ_95 : decode cY1_differ 95 = .ok (.iconst 0, 1) := by decide +kernel
theorem dY1_differ_96 : decode cY1_differ 96 = .ok (.iadd, 1) := by decide +kernel
theorem dY1_differ_97 : decode cY1_differ 97 = .ok (.istore_n 1, 1) := by decide +kernel
theorem dY1_differ_98 : decode cY1_differ 98 = .ok (.iinc 4 1, 3) := by decide +kernel
theorem dY1_differ_101 : decode cY1_differ 101 = .ok (.goto (-47), 3) := by decide +kernel
theorem dY1_differ_104 : decode cY1_differ 104 = .ok (.iinc 3 1, 3) := by decide +kernel
theorem dY1_differ_107 : decode cY1_differ 107 = .ok (.goto (-64), 3) := by decide +kernel
theorem dY1_differ_110 : decode cY1_differ 110 = .ok (.iinc 2 1, 3) := by decide +kernel
theorem dY1_differ_113 : decode cY1_differ 113 = .ok (.goto (-80), 3) := by decide +kernel
theorem dY1_differ_116 : decode cY1_differ 116 = .ok (.iload_n 1, 1) := by decide +kernel
theorem dY1_differ_117 : decode cY1_differ 117 = .ok (.ireturn, 1) := by decide +kernel
theorem dY1_at_0 : decode cY1_at 0 = .ok (.aload_n 0, 1) := by decide +kernel
theorem dY1_at_1 : decode cY1_at 1 = .ok (.iconst 0, 1) := by decide +kernel
theorem dY1_at_2 : decode cY1_at 2 = .ok (.putfield 36, 3) := by decide +kernel
theorem dY1_at_5 : decode cY1_at 5 = .ok (.aload_n 0, 1) := by decide +kernel
theorem dY1_at_6 : decode cY1_at 6 = .ok (.iload_n 1, 1) := by decide +kernel
theorem dY1_at_7 : decode cY1_at 7 = .ok (.iload_n 2, 1) := by decide +kernel
theorem dY1_at_8 : decode cY1_at 8 = .ok (.invokevirtual 39, 3) := by decide +kernel
theorem dY1_at_11 : decode cY1_at 11 = .ok (.ifCond .eq 25, 3) := by decide +kernel
theorem dY1_at_14 : decode cY1_at 14 = .ok (.iload_n 3, 1) := by decide +kernel
theorem dY1_at_15 : decode cY1_at 15 = .ok (.invokestatic 43, 3) := by decide +kernel
theorem dY1_at_18 : decode cY1_at 18 = .ok (.ifCond .eq 18, 3) := by decide +kernel
theorem dY1_at_21 : decode cY1_at 21 = .ok (.aload_n 0, 1) := by decide +kernel
theorem dY1_at_22 : decode cY1_at 22 = .ok (.getfield 7, 3) := by decide +kernel
theorem dY1_at_25 : decode cY1_at 25 = .ok (.iload_n 1, 1) := by decide +kernel
theorem dY1_at_26 : decode cY1_at 26 = .ok (.iload_n 2, 1) := by decide +kernel
theorem dY1_at_27 : decode cY1_at 27 = .ok (.invokestatic 47, 3) := by decide +kernel
theorem dY1_at_30 : decode cY1_at 30 = .ok (.iload_n 3, 1) := by decide +kernel
theorem dY1_at_31 : decode cY1_at 31 = .ok (.iadd, 1) := by decide +kernel
theorem dY1_at_32 : decode cY1_at 32 = .ok (.iaload, 1) := by decide +kernel
theorem dY1_at_33 : decode cY1_at 33 = .ok (.goto 4, 3) := by decide +kernel
theorem dY1_at_36 : decode cY1_at 36 = .ok (.iconst 0, 1) := by decide +kernel
theorem dY1_at_37 : decode cY1_at 37 = .ok (.ireturn, 1) := by decide +kernel
theorem dY1_four_0 : decode cY1_four 0 = .ok (.aload_n 0, 1) := by decide +kernel
theorem dY1_four_1 : decode cY1_four 1 = .ok (.iconst 0, 1) := by decide +kernel
theorem dY1_four_2 : decode cY1_four 2 = .ok (.putfield 36, 3) := by decide +kernel
theorem dY1_four_5 : decode cY1_four 5 = .ok (.aload_n 0, 1) := by decide +kernel
theorem dY1_four_6 : decode cY1_four 6 = .ok (.iload_n 1, 1) := by decide +kernel
theorem dY1_four_7 : decode cY1_four 7 = .ok (.iload_n 2, 1) := by decide +kernel
theorem dY1_four_8 : decode cY1_four 8 = .ok (.invokevirtual 39, 3) := by decide +kernel
theorem dY1_four_11 : decode cY1_four 11 = .ok (.ifCond .eq 24, 3) := by decide +kernel
theorem dY1_four_14 : decode cY1_four 14 = .ok (.iload_n 3, 1) := by decide +kernel
theorem dY1_four_15 : decode cY1_four 15 = .ok (.ifCond .lt 20, 3) := by decide +kernel
theorem dY1_four_18 : decode cY1_four 18 = .ok (.iload_n 3, 1) := by decide +kernel
theorem dY1_four_19 : decode cY1_four 19 = .ok (.bipush 7, 2) := by decide +kernel
theorem dY1_four_21 : decode cY1_four 21 = .ok (.if_icmp .gt 14, 3) := by decide +kernel
theorem dY1_four_24 : decode cY1_four 24 = .ok (.iload 4, 2) := by decide +kernel
theorem dY1_four_26 : decode cY1_four 26 = .ok (.ifCond .lt 9, 3) := by decide +kernel
theorem dY1_four_29 : decode cY1_four 29 = .ok (.iload 4, 2) := by decide +kernel
theorem dY1_four_31 : decode cY1_four 31 = .ok (.iconst 1, 1) := by decide +kernel
theorem dY1_four_32 : decode cY1_four 32 = .ok (.if_icmp .le 5, 3) := by decide +kernel
theorem dY1_four_35 : decode cY1_four 35 = .ok (.lconst 0, 1) := by decide +kernel
theorem dY1_four_36 : decode cY1_four 36 = .ok (.lreturn, 1) := by decide +kernel
theorem dY1_four_37 : decode cY1_four 37 = .ok (.lconst 0, 1) := by decide +kernel
theorem dY1_four_38 : decode cY1_four 38 = .ok (.lstore 5, 2) := by decide +kernel
theorem dY1_four_40 : decode cY1_four 40 = .ok (.iconst 0, 1) := by decide +kernel
theorem dY1_four_41 : decode cY1_four 41 = .ok (.istore 7, 2) := by decide +kernel
theorem dY1_four_43 : decode cY1_four 43 = .ok (.iload 7, 2) := by decide +kernel
theorem dY1_four_45 : decode cY1_four 45 = .ok (.iconst 4, 1) := by decide +kernel
theorem dY1_four_46 : decode cY1_four 46 = .ok (.if_icmp .ge 45, 3) := by decide +kernel
theorem dY1_four_49 : decode cY1_four 49 = .ok (.lload 5, 2) := by decide +kernel
theorem dY1_four_51 : decode cY1_four 51 = .ok (.bipush 16, 2) := by decide +kernel
theorem dY1_four_53 : decode cY1_four 53 = .ok (.lshl, 1) := by decide +kernel
theorem dY1_four_54 : decode cY1_four 54 = .ok (.aload_n 0, 1) := by decide +kernel
theorem dY1_four_55 : decode cY1_four 55 = .ok (.getfield 7, 3) := by decide +kernel
theorem dY1_four_58 : decode cY1_four 58 = .ok (.iload_n 1, 1) := by decide +kernel
theorem dY1_four_59 : decode cY1_four 59 = .ok (.iload_n 2, 1) := by decide +kernel
theorem dY1_four_60 : decode cY1_four 60 = .ok (.invokestatic 47, 3) := by decide +kernel
theorem dY1_four_63 : decode cY1_four 63 = .ok (.bipush 8, 2) := by decide +kernel
theorem dY1_four_65 : decode cY1_four 65 = .ok (.iload_n 3, 1) := by decide +kernel
theorem dY1_four_66 : decode cY1_four 66 = .ok (.imul, 1) := by decide +kernel
theorem dY1_four_67 : decode cY1_four 67 = .ok (.iadd, 1) := by decide +kernel
theorem dY1_four_68 : decode cY1_four 68 = .ok (.iconst 4, 1) := by decide +kernel
theorem dY1_four_69 : decode cY1_four 69 = .ok (.iload 4, 2) := by decide +kernel
theorem dY1_four_71 : decode cY1_four 71 = .ok (.imul, 1) := by decide +kernel
theorem dY1_four_72 : decode cY1_four 72 = .ok (.iadd, 1) := by decide +kernel
theorem dY1_four_73 : decode cY1_four 73 = .ok (.iload 7, 2) := by decide +kernel
theorem dY1_four_75 : decode cY1_four 75 = .ok (.iadd, 1) := by decide +kernel
theorem dY1_four_76 : decode cY1_four 76 = .ok (.iaload, 1) := by decide +kernel
theorem dY1_four_77 : decode cY1_four 77 = .ok (.i2l, 1) := by decide +kernel
theorem dY1_four_78 : decode cY1_four 78 = .ok (.ldc2_w 72, 3) := by decide +kernel
theorem dY1_four_81 : decode cY1_four 81 = .ok (.land, 1) := by decide +kernel
theorem dY1_four_82 : decode cY1_four 82 = .ok (.lor, 1) := by decide +kernel
theorem dY1_four_83 : decode cY1_four 83 = .ok (.lstore 5, 2) := by decide +kernel
theorem dY1_four_85 : decode cY1_four 85 = .ok (.iinc 7 1, 3) := by decide +kernel
theorem dY1_four_88 : decode cY1_four 88 = .ok (.goto (-45), 3) := by decide +kernel
theorem dY1_four_91 : decode cY1_four 91 = .ok (.lload 5, 2) := by decide +kernel
theorem dY1_four_93 : decode cY1_four 93 = .ok (.lreturn, 1) := by decide +kernel
theorem dY1_sum_0 : decode cY1_sum 0 = .ok (.aload_n 0, 1) := by decide +kernel
theorem dY1_sum_1 : decode cY1_sum 1 = .ok (.iload_n 1, 1) := by decide +kernel
theorem dY1_sum_2 : decode cY1_sum 2 = .ok (.invokestatic 43, 3) := by decide +kernel
theorem dY1_sum_5 : decode cY1_sum 5 = .ok (.ifCond .eq 7, 3) := by decide +kernel
theorem dY1_sum_8 : decode cY1_sum 8 = .ok (.iconst 0, 1) := by decide +kernel
theorem dY1_sum_9 : decode cY1_sum 9 = .ok (.goto 4, 3) := by decide +kernel
theorem dY1_sum_12 : decode cY1_sum 12 = .ok (.iconst 1, 1) := by decide +kernel
theorem dY1_sum_13 : decode cY1_sum 13 = .ok (.putfield 36, 3) := by decide +kernel
theorem dY1_sum_16 : decode cY1_sum 16 = .ok (.lconst 0, 1) := by decide +kernel
theorem dY1_sum_17 : decode cY1_sum 17 = .ok (.lstore_n 2, 1) := by decide +kernel
theorem dY1_sum_18 : decode cY1_sum 18 = .ok (.iconst 0, 1) := by decide +kernel
theorem dY1_sum_19 : decode cY1_sum 19 = .ok (.istore 4, 2) := by decide +kernel
theorem dY1_sum_21 : decode cY1_sum 21 = .ok (.iload 4, 2) := by decide +kernel
theorem dY1_sum_23 : decode cY1_sum 23 = .ok (.aload_n 0, 1) := by decide +kernel
theorem dY1_sum_24 : decode cY1_sum 24 = .ok (.getfield 27, 3) := by decide +kernel
theorem dY1_sum_27 : decode cY1_sum 27 = .ok (.if_icmp .ge 64, 3) := by decide +kernel
theorem dY1_sum_30 : decode cY1_sum 30 = .ok (.aload_n 0, 1) := by decide +kernel
theorem dY1_sum_31 : decode cY1_sum 31 = .ok (.getfield 36, 3) := by decide +kernel
theorem dY1_sum_34 : decode cY1_sum 34 = .ok (.ifCond .ne 57, 3) := by decide +kernel
theorem dY1_sum_37 : decode cY1_sum 37 = .ok (.iconst 0, 1) := by decide +kernel
theorem dY1_sum_38 : decode cY1_sum 38 = .ok (.istore 5, 2) := by decide +kernel
theorem dY1_sum_40 : decode cY1_sum 40 = .ok (.iload 5, 2) := by decide +kernel
theorem dY1_sum_42 : decode cY1_sum 42 = .ok (.aload_n 0, 1) := by decide +kernel
theorem dY1_sum_43 : decode cY1_sum 43 = .ok (.getfield 23, 3) := by decide +kernel
theorem dY1_sum_46 : decode cY1_sum 46 = .ok (.if_icmp .ge 39, 3) := by decide +kernel
theorem dY1_sum_49 : decode cY1_sum 49 = .ok (.lload_n 2, 1) := by decide +kernel
theorem dY1_sum_50 : decode cY1_sum 50 = .ok (.aload_n 0, 1) := by decide +kernel
theorem dY1_sum_51 : decode cY1_sum 51 = .ok (.getfield 7, 3) := by decide +kernel
theorem dY1_sum_54 : decode cY1_sum 54 = .ok (.iload 5, 2) := by decide +kernel
theorem dY1_sum_56 : decode cY1_sum 56 = .ok (.iload 4, 2) := by decide +kernel
theorem dY1_sum_58 : decode cY1_sum 58 = .ok (.invokestatic 47, 3) := by decide +kernel
theorem dY1_sum_61 : decode cY1_sum 61 = .ok (.iload_n 1, 1) := by decide +kernel
theorem dY1_sum_62 : decode cY1_sum 62 = .ok (.iadd, 1) := by decide +kernel
theorem dY1_sum_63 : decode cY1_sum 63 = .ok (.iaload, 1) := by decide +kernel
theorem dY1_sum_64 : decode cY1_sum 64 = .ok (.i2l, 1) := by decide +kernel
theorem dY1_sum_65 : decode cY1_sum 65 = .ok (.iconst 1, 1) := by decide +kernel
theorem dY1_sum_66 : decode cY1_sum 66 = .ok (.iload 5, 2) := by decide +kernel
theorem dY1_sum_68 : decode cY1_sum 68 = .ok (.iadd, 1) := by decide +kernel
theorem dY1_sum_69 : decode cY1_sum 69 = .ok (.bipush 8, 2) := by decide +kernel
theorem dY1_sum_71 : decode cY1_sum 71 = .ok (.iload 4, 2) := by decide +kernel
theorem dY1_sum_73 : decode cY1_sum 73 = .ok (.imul, 1) := by decide +kernel
theorem dY1_sum_74 : decode cY1_sum 74 = .ok (.iadd, 1) := by decide +kernel
theorem dY1_sum_75 : decode cY1_sum 75 = .ok (.i2l, 1) := by decide +kernel
theorem dY1_sum_76 : decode cY1_sum 76 = .ok (.lmul, 1) := by decide +kernel
theorem dY1_sum_77 : decode cY1_sum 77 = .ok (.ladd, 1) := by decide +kernel
theorem dY1_sum_78 : decode cY1_sum 78 = .ok (.lstore_n 2, 1) := by decide +kernel
theorem dY1_sum_79 : decode cY1_sum 79 = .ok (.iinc 5 1, 3) := by decide +kernel
theorem dY1_sum_82 : decode cY1_sum 82 = .ok (.goto (-42), 3) := by decide +kernel
theorem dY1_sum_85 : decode cY1_sum 85 = .ok (.iinc 4 1, 3) := by decide +kernel
theorem dY1_sum_88 : decode cY1_sum 88 = .ok (.goto (-67), 3) := by decide +kernel
theorem dY1_sum_91 : decode cY1_sum 91 = .ok (.lload_n 2, 1) := by decide +kernel
theorem dY1_sum_92 : decode cY1_sum 92 = .ok (.lreturn, 1) := by decide +kernel
theorem dY1_lookAll_0 : decode cY1_lookAll 0 = .ok (.iconst 0, 1) := by decide +kernel
theorem dY1_lookAll_1 : decode cY1_lookAll 1 = .ok (.istore_n 2, 1) := by decide +kernel
theorem dY1_lookAll_2 : decode cY1_lookAll 2 = .ok (.iconst 0, 1) := by decide +kernel
theorem dY1_lookAll_3 : decode cY1_lookAll 3 = .ok (.istore_n 3, 1) := by decide +kernel
theorem dY1_lookAll_4 : decode cY1_lookAll 4 = .ok (.iconst 0, 1) := by decide +kernel
theorem dY1_lookAll_5 : decode cY1_lookAll 5 = .ok (.istore 4, 2) := by decide +kernel
theorem dY1_lookAll_7 : decode cY1_lookAll 7 = .ok (.iload 4, 2) := by decide +kernel
theorem dY1_lookAll_9 : decode cY1_lookAll 9 = .ok (.aload_n 0, 1) := by decide +kernel
theorem dY1_lookAll_10 : decode cY1_lookAll 10 = .ok (.getfield 27, 3) := by decide +kernel
theorem dY1_lookAll_13 : decode cY1_lookAll 13 = .ok (.if_icmp .ge 99, 3) := by decide +kernel
theorem dY1_lookAll_16 : decode cY1_lookAll 16 = .ok (.iconst 0, 1) := by decide +kernel
theorem dY1_lookAll_17 : decode cY1_lookAll 17 = .ok (.istore 5, 2) := by decide +kernel
theorem dY1_lookAll_19 : decode cY1_lookAll 19 = .ok (.iload 5, 2) := by decide +kernel
theorem dY1_lookAll_21 : decode cY1_lookAll 21 = .ok (.aload_n 0, 1) := by decide +kernel
theorem dY1_lookAll_22 : decode cY1_lookAll 22 = .ok (.getfield 23, 3) := by decide +kernel
theorem dY1_lookAll_25 : decode cY1_lookAll 25 = .ok (.if_icmp .ge 81, 3) := by decide +kernel
theorem dY1_lookAll_28 : decode cY1_lookAll 28 = .ok (.iconst 0, 1) := by decide +kernel
theorem dY1_lookAll_29 : decode cY1_lookAll 29 = .ok (.istore 6, 2) := by decide +kernel
theorem dY1_lookAll_31 : decode cY1_lookAll 31 = .ok (.iload 6, 2) := by decide +kernel
theorem dY1_lookAll_33 : decode cY1_lookAll 33 = .ok (.bipush 64, 2) := by decide +kernel
theorem dY1_lookAll_35 : decode cY1_lookAll 35 = .ok (.if_icmp .ge 65, 3) := by decide +kernel
theorem dY1_lookAll_38 : decode cY1_lookAll 38 = .ok (.aload_n 0, 1) := by decide +kernel
theorem dY1_lookAll_39 : decode cY1_lookAll 39 = .ok (.getfield 7, 3) := by decide +kernel
theorem dY1_lookAll_42 : decode cY1_lookAll 42 = .ok (.iload 5, 2) := by decide +kernel
theorem dY1_lookAll_44 : decode cY1_lookAll 44 = .ok (.iload 4, 2) := by decide +kernel
theorem dY1_lookAll_46 : decode cY1_lookAll 46 = .ok (.invokestatic 47, 3) := by decide +kernel
theorem dY1_lookAll_49 : decode cY1_lookAll 49 = .ok (.iload 6, 2) := by decide +kernel
theorem dY1_lookAll_51 : decode cY1_lookAll 51 = .ok (.iadd, 1) := by decide +kernel
theorem dY1_lookAll_52 : decode cY1_lookAll 52 = .ok (.iaload, 1) := by decide +kernel
theorem dY1_lookAll_53 : decode cY1_lookAll 53 = .ok (.istore 7, 2) := by decide +kernel
theorem dY1_lookAll_55 : decode cY1_lookAll 55 = .ok (.iload_n 2, 1) := by decide +kernel
theorem dY1_lookAll_56 : decode cY1_lookAll 56 = .ok (.iload 7, 2) := by decide +kernel
theorem dY1_lookAll_58 : decode cY1_lookAll 58 = .ok (.ifCond .eq 7, 3) := by decide +kernel
theorem dY1_lookAll_61 : decode cY1_lookAll 61 = .ok (.iconst 1, 1) := by decide +kernel
theorem dY1_lookAll_62 : decode cY1_lookAll 62 = .ok (.goto 4, 3) := by decide +kernel
theorem dY1_lookAll_65 : decode cY1_lookAll 65 = .ok (.iconst 0, 1) := by decide +kernel
theorem dY1_lookAll_66 : decode cY1_lookAll 66 = .ok (.iadd, 1) := by decide +kernel
theorem dY1_lookAll_67 : decode cY1_lookAll 67 = .ok (.istore_n 2, 1) := by decide +kernel
theorem dY1_lookAll_68 : decode cY1_lookAll 68 = .ok (.iload 7, 2) := by decide +kernel
theorem dY1_lookAll_70 : decode cY1_lookAll 70 = .ok (.iload_n 3, 1) := by decide +kernel
theorem dY1_lookAll_71 : decode cY1_lookAll 71 = .ok (.if_icmp .le 8, 3) := by decide +kernel
theorem dY1_lookAll_74 : decode cY1_lookAll 74 = .ok (.iload 7, 2) := by decide +kernel
theorem dY1_lookAll_76 : decode cY1_lookAll 76 = .ok (.goto 17, 3) := by decide +kernel
theorem dY1_lookAll_79 : decode cY1_lookAll 79 = .ok (.iload 7, 2) := by decide +kernel
theorem dY1_lookAll_81 : decode cY1_lookAll 81 = .ok (.ineg, 1) := by decide +kernel
theorem dY1_lookAll_82 : decode cY1_lookAll 82 = .ok (.iload_n 3, 1) := by decide +kernel
theorem dY1_lookAll_83 : decode cY1_lookAll 83 = .ok (.if_icmp .le 9, 3) := by decide +kernel
theorem dY1_lookAll_86 : decode cY1_lookAll 86 = .ok (.iload 7, 2) := by decide +kernel
theorem dY1_lookAll_88 : decode cY1_lookAll 88 = .ok (.ineg, 1) := by decide +kernel
theorem dY1_lookAll_89 : decode cY1_lookAll 89 = .ok (.goto 4, 3) := by decide +kernel
theorem dY1_lookAll_92 : decode cY1_lookAll 92 = .ok (.iload_n 3, 1) := by decide +kernel
theorem dY1_lookAll_93 : decode cY1_lookAll 93 = .ok (.istore_n 3, 1) := by decide +kernel
theorem dY1_lookAll_94 : decode cY1_lookAll 94 = .ok (.iinc 6 1, 3) := by decide +kernel
theorem dY1_lookAll_97 : decode cY1_lookAll 97 = .ok (.goto (-66), 3) := by decide +kernel
theorem dY1_lookAll_100 : decode cY1_lookAll 100 = .ok (.iinc 5 1, 3) := by decide +kernel
theorem dY1_lookAll_103 : decode cY1_lookAll 103 = .ok (.goto (-84), 3) := by decide +kernel
theorem dY1_lookAll_106 : decode cY1_lookAll 106 = .ok (.iinc 4 1, 3) := by decide +kernel
theorem dY1_lookAll_109 : decode cY1_lookAll 109 = .ok (.goto (-102), 3) := by decide +kernel
theorem dY1_lookAll_112 : decode cY1_lookAll 112 = .ok (.iload_n 1, 1) := by decide +kernel
theorem dY1_lookAll_113 : decode cY1_lookAll 113 = .ok (.ifCond .eq 7, 3) := by decide +kernel
theorem dY1_lookAll_116 : decode cY1_lookAll 116 = .ok (.iload_n 2, 1) := by decide +kernel
theorem dY1_lookAll_117 : decode cY1_lookAll 117 = .ok (.goto 4, 3) := by decide +kernel
theorem dY1_lookAll_120 : decode cY1_lookAll 120 = .ok (.iload_n 3, 1) := by decide +kernel
theorem dY1_lookAll_121 : decode cY1_lookAll 121 = .ok (.ireturn, 1) := by decide +kernel
theorem dY1_look_0 : decode cY1_look 0 = .ok (.aload_n 0, 1) := by decide +kernel
theorem dY1_look_1 : decode cY1_look 1 = .ok (.iconst 0, 1) := by decide +kernel
theorem dY1_look_2 : decode cY1_look 2 = .ok (.putfield 36, 3) := by decide +kernel
theorem dY1_look_5 : decode cY1_look 5 = .ok (.iload_n 1, 1) := by decide +kernel
theorem dY1_look_6 : decode cY1_look 6 = .ok (.tableswitch 70 0 5 #[38, 43, 48, 54, 60, 65], 38) := by decide +kernel
theorem dY1_look_44 : decode cY1_look 44 = .ok (.aload_n 0, 1) := by decide +kernel
theorem dY1_look_45 : decode cY1_look 45 = .ok (.getfield 23, 3) := by decide +kernel
theorem dY1_look_48 : decode cY1_look 48 = .ok (.ireturn, 1) := by decide +kernel
theorem dY1_look_49 : decode cY1_look 49 = .ok (.aload_n 0, 1) := by decide +kernel
theorem dY1_look_50 : decode cY1_look 50 = .ok (.getfield 27, 3) := by decide +kernel
theorem dY1_look_53 : decode cY1_look 53 = .ok (.ireturn, 1) := by decide +kernel
theorem dY1_look_54 : decode cY1_look 54 = .ok (.aload_n 0, 1) := by decide +kernel
theorem dY1_look_55 : decode cY1_look 55 = .ok (.iconst 1, 1) := by decide +kernel
theorem dY1_look_56 : decode cY1_look 56 = .ok (.invokevirtual 74, 3) := by decide +kernel
theorem dY1_look_59 : decode cY1_look 59 = .ok (.ireturn, 1) := by decide +kernel
theorem dY1_look_60 : decode cY1_look 60 = .ok (.aload_n 0, 1) := by decide +kernel
theorem dY1_look_61 : decode cY1_look 61 = .ok (.iconst 0, 1) := by decide +kernel
theorem dY1_look_62 : decode cY1_look 62 = .ok (.invokevirtual 74, 3) := by decide +kernel
theorem dY1_look_65 : decode cY1_look 65 = .ok (.ireturn, 1) := by decide +kernel
theorem dY1_look_66 : decode cY1_look 66 = .ok (.aload_n 0, 1) := by decide +kernel
theorem dY1_look_67 : decode cY1_look 67 = .ok (.getfield 30, 3) := by decide +kernel
theorem dY1_look_70 : decode cY1_look 70 = .ok (.ireturn, 1) := by decide +kernel
theorem dY1_look_71 : decode cY1_look 71 = .ok (.aload_n 0, 1) := by decide +kernel
theorem dY1_look_72 : decode cY1_look 72 = .ok (.getfield 33, 3) := by decide +kernel
theorem dY1_look_75 : decode cY1_look 75 = .ok (.ireturn, 1) := by decide +kernel
theorem dY1_look_76 : decode cY1_look 76 = .ok (.iconst (-1), 1) := by decide +kernel
theorem dY1_look_77 : decode cY1_look 77 = .ok (.ireturn, 1) := by decide +kernel
theorem dX0_sum_0 : decode cX0_sum 0 = .ok (.iload_n 1, 1) := by decide +kernel
theorem dX0_sum_1 : decode cX0_sum 1 = .ok (.invokestatic 37, 3) := by decide +kernel
theorem dX0_sum_4 : decode cX0_sum 4 = .ok (.ifCond .ne 13, 3) := by decide +kernel
theorem dX0_sum_7 : decode cX0_sum 7 = .ok (.new 41, 3) := by decide +kernel
theorem dX0_sum_10 : decode cX0_sum 10 = .ok (.dup, 1) := by decide +kernel
theorem dX0_sum_11 : decode cX0_sum 11 = .ok (.ldc 98, 2) := by decide +kernel
theorem dX0_sum_13 : decode cX0_sum 13 = .ok (.invokespecial 45, 3) := by decide +kernel
theorem dX0_sum_16 : decode cX0_sum 16 = .ok (.athrow, 1) := by decide +kernel
theorem dX0_sum_17 : decode cX0_sum 17 = .ok (.lconst 0, 1) := by decide +kernel
theorem dX0_sum_18 : decode cX0_sum 18 = .ok (.lstore_n 2, 1) := by decide +kernel
theorem dX0_sum_19 : decode cX0_sum 19 = .ok (.iconst 0, 1) := by decide +kernel
theorem dX0_sum_20 : decode cX0_sum 20 = .ok (.istore 4, 2) := by decide +kernel
theorem dX0_sum_22 : decode cX0_sum 22 = .ok (.iload 4, 2) := by decide +kernel
theorem dX0_sum_24 : decode cX0_sum 24 = .ok (.aload_n 0, 1) := by decide +kernel
theorem dX0_sum_25 : decode cX0_sum 25 = .ok (.getfield 17, 3) := by decide +kernel
theorem dX0_sum_28 : decode cX0_sum 28 = .ok (.if_icmp .ge 61, 3) := by decide +kernel
theorem dX0_sum_31 : decode cX0_sum 31 = .ok (.iconst 0, 1) := by decide +kernel
theorem dX0_sum_32 : decode cX0_sum 32 = .ok (.istore 5, 2) := by decide +kernel
theorem dX0_sum_34 : decode cX0_sum 34 = .ok (.iload 5, 2) := by decide +kernel
theorem dX0_sum_36 : decode cX0_sum 36 = .ok (.aload_n 0, 1) := by decide +kernel
theorem dX0_sum_37 : decode cX0_sum 37 = .ok (.getfield 13, 3) := by decide +kernel
theorem dX0_sum_40 : decode cX0_sum 40 = .ok (.if_icmp .ge 43, 3) := by decide +kernel
theorem dX0_sum_43 : decode cX0_sum 43 = .ok (.iconst 1, 1) := by decide +kernel
theorem dX0_sum_44 : decode cX0_sum 44 = .ok (.iload 5, 2) := by decide +kernel
theorem dX0_sum_46 : decode cX0_sum 46 = .ok (.iadd, 1) := by decide +kernel
theorem dX0_sum_47 : decode cX0_sum 47 = .ok (.bipush 8, 2) := by decide +kernel
theorem dX0_sum_49 : decode cX0_sum 49 = .ok (.iload 4, 2) := by decide +kernel
theorem dX0_sum_51 : decode cX0_sum 51 = .ok (.imul, 1) := by decide +kernel
theorem dX0_sum_52 : decode cX0_sum 52 = .ok (.iadd, 1) := by decide +kernel
theorem dX0_sum_53 : decode cX0_sum 53 = .ok (.i2l, 1) := by decide +kernel
theorem dX0_sum_54 : decode cX0_sum 54 = .ok (.lstore 6, 2) := by decide +kernel
theorem dX0_sum_56 : decode cX0_sum 56 = .ok (.lload_n 2, 1) := by decide +kernel
theorem dX0_sum_57 : decode cX0_sum 57 = .ok (.lload 6, 2) := by decide +kernel
theorem dX0_sum_59 : decode cX0_sum 59 = .ok (.aload_n 0, 1) := by decide +kernel
theorem dX0_sum_60 : decode cX0_sum 60 = .ok (.getfield 26, 3) := by decide +kernel
theorem dX0_sum_63 : decode cX0_sum 63 = .ok (.iload 5, 2) := by decide +kernel
theorem dX0_sum_65 : decode cX0_sum 65 = .ok (.iload 4, 2) := by decide +kernel
theorem dX0_sum_67 : decode cX0_sum 67 = .ok (.invokestatic 53, 3) := by decide +kernel
theorem dX0_sum_70 : decode cX0_sum 70 = .ok (.iload_n 1, 1) := by decide +kernel
theorem dX0_sum_71 : decode cX0_sum 71 = .ok (.iadd, 1) := by decide +kernel
theorem dX0_sum_72 : decode cX0_sum 72 = .ok (.iaload, 1) := by decide +kernel
theorem dX0_sum_73 : decode cX0_sum 73 = .ok (.i2l, 1) := by decide +kernel
theorem dX0_sum_74 : decode cX0_sum 74 = .ok (.lmul, 1) := by decide +kernel
theorem dX0_sum_75 : decode cX0_sum 75 = .ok (.ladd, 1) := by decide +kernel
theorem dX0_sum_76 : decode cX0_sum 76 = .ok (.lstore_n 2, 1) := by decide +kernel
theorem dX0_sum_77 : decode cX0_sum 77 = .ok (.iinc 5 1, 3) := by decide +kernel
theorem dX0_sum_80 : decode cX0_sum 80 = .ok (.goto (-46), 3) := by decide +kernel
theorem dX0_sum_83 : decode cX0_sum 83 = .ok (.iinc 4 1, 3) := by decide +kernel
theorem dX0_sum_86 : decode cX0_sum 86 = .ok (.goto (-64), 3) := by decide +kernel
theorem dX0_sum_89 : decode cX0_sum 89 = .ok (.lload_n 2, 1) := by decide +kernel
theorem dX0_sum_90 : decode cX0_sum 90 = .ok (.lreturn, 1) := by decide +kernel
theorem dL_sum_0 : decode cL_sum 0 = .ok (.aload_n 2, 1) := by decide +kernel
theorem dL_sum_1 : decode cL_sum 1 = .ok (.iconst 0, 1) := by decide +kernel
theorem dL_sum_2 : decode cL_sum 2 = .ok (.aload_n 0, 1) := by decide +kernel
theorem dL_sum_3 : decode cL_sum 3 = .ok (.iload_n 1, 1) := by decide +kernel
theorem dL_sum_4 : decode cL_sum 4 = .ok (.invokevirtual 17, 3) := by decide +kernel
theorem dL_sum_7 : decode cL_sum 7 = .ok (.lastore, 1) := by decide +kernel
theorem dL_sum_8 : decode cL_sum 8 = .ok (.goto 6, 3) := by decide +kernel
theorem dL_sum_11 : decode cL_sum 11 = .ok (.astore_n 3, 1) := by decide +kernel
theorem dL_sum_12 : decode cL_sum 12 = .ok (.iconst 1, 1) := by decide +kernel
theorem dL_sum_13 : decode cL_sum 13 = .ok (.ireturn, 1) := by decide +kernel
theorem dL_sum_14 : decode cL_sum 14 = .ok (.iconst 0, 1) := by decide +kernel
theorem dL_sum_15 : decode cL_sum 15 = .ok (.ireturn, 1) := by decide +kernel
