def wsX11_init_r1 : List Cond := [Cond.methodLink RX11 1 objectInit, Cond.instanceMethod objectInit, Cond.code objectInit ⟨#[0xb1]⟩ 1 none, Cond.classLink RX11 7 RX7, Cond.instantiable RX7 10, Cond.initialized RX7, Cond.fieldLink RX11 10 "RoomForms" "room" "LRoomForms$Room;", Cond.classLink RX11 16 RX1, Cond.fieldLink RX11 18 "RoomForms" "forms" "[LRoomForms$Form;", Cond.fieldLink RX11 22 "RoomForms" "form" "LRoomForms$Form;", Cond.fieldLink RX11 26 "RoomForms" "formNumber" "I", Cond.fieldLink RX11 30 "RoomForms" "search" "LRoomForms$Search;", Cond.classLink RX11 34 RX0, Cond.instantiable RX0 3, Cond.initialized RX0, Cond.classLink RX11 39 RX3, Cond.instantiable RX3 3, Cond.initialized RX3, Cond.classLink RX11 44 RX5, Cond.instantiable RX5 4, Cond.initialized RX5, Cond.classLink RX11 47 RX2, Cond.instantiable RX2 2, Cond.initialized RX2]
def wsX11_init_r2 : List Cond := [Cond.classLink RX11 50 RX4, Cond.instantiable RX4 2, Cond.initialized RX4, Cond.classLink RX11 53 RX9, Cond.instantiable RX9 2, Cond.initialized RX9, Cond.classLink RX11 56 RX6, Cond.instantiable RX6 2, Cond.initialized RX6, Cond.instanceMethod yX7_init, Cond.code yX7_init cX7_init 1 none, Cond.methodLink RX7 3 objectInit, Cond.arrayClass .int, Cond.fieldLink RX7 9 "RoomForms$Room" "owners" "[I", Cond.fieldLink RX7 15 "RoomForms$Room" "numbers" "[I", Cond.fieldLink RX7 18 "RoomForms$Room" "places" "[I", Cond.fieldLink RX7 21 "RoomForms$Room" "spans" "[I", Cond.fieldLink RX7 24 "RoomForms$Room" "asked" "[I", Cond.classLink RX7 27 RX10, Cond.instantiable RX10 4, Cond.initialized RX10, Cond.fieldLink RX7 32 "RoomForms$Room" "runs" "LRoomForms$Stretches;", Cond.fieldLink RX7 36 "RoomForms$Room" "words" "I", Cond.fieldLink RX7 40 "RoomForms$Room" "blocks" "I"]
def wsX11_init_r3 : List Cond := [Cond.fieldLink RX7 43 "RoomForms$Room" "given" "I", Cond.fieldLink RX7 46 "RoomForms$Room" "looked" "I", Cond.methodLink RX7 29 yX10_init, Cond.instanceMethod yX10_init, Cond.code yX10_init cX10_init 3 none, Cond.methodLink RX10 3 objectInit, Cond.fieldLink RX10 9 "RoomForms$Stretches" "size" "I", Cond.fieldLink RX10 15 "RoomForms$Stretches" "looked" "I", Cond.methodLink RX10 18 Lib.Math.max.name, Cond.static Lib.Math.max.name, Cond.initialized "java/lang/Math", Cond.code Lib.Math.max.name Lib.Math.max.code 2 (some .int), Cond.fieldLink RX10 24 "RoomForms$Stretches" "places" "[I", Cond.fieldLink RX10 28 "RoomForms$Stretches" "words" "[I", Cond.methodLink RX11 36 yX0_init, Cond.instanceMethod yX0_init, Cond.code yX0_init cX0_init 3 none, Cond.fieldLink RX0 9 "RoomForms$Fits" "lastEnd" "I", Cond.fieldLink RX0 15 "RoomForms$Fits" "number" "I", Cond.methodLink RX0 3 yX1_init, Cond.instanceMethod yX1_init, Cond.initialized RX1, Cond.code yX1_init cX1_init 2 none, Cond.methodLink RX1 3 objectInit]
def wsX11_init_r4 : List Cond := [Cond.fieldLink RX1 9 "RoomForms$Form" "room" "LRoomForms$Room;", Cond.methodLink RX11 41 yX3_init, Cond.instanceMethod yX3_init, Cond.code yX3_init cX3_init 2 none, Cond.fieldLink RX3 9 "RoomForms$Halves" "pieces" "[I", Cond.fieldLink RX3 15 "RoomForms$Halves" "whole" "I", Cond.methodLink RX3 3 yX1_init, Cond.methodLink RX11 46 yX5_init, Cond.instanceMethod yX5_init, Cond.code yX5_init cX5_init 2 none, Cond.fieldLink RX5 11 "RoomForms$Pages" "spans" "[I", Cond.fieldLink RX5 15 "RoomForms$Pages" "blocks" "[I", Cond.fieldLink RX5 18 "RoomForms$Pages" "pages" "I", Cond.methodLink RX5 3 yX1_init, Cond.methodLink RX11 49 yX2_init, Cond.instanceMethod yX2_init, Cond.code yX2_init cX2_init 2 none, Cond.fieldLink RX2 9 "RoomForms$Grains" "grains" "I", Cond.methodLink RX2 3 yX1_init, Cond.methodLink RX11 52 yX4_init, Cond.instanceMethod yX4_init, Cond.code yX4_init cX4_init 2 none, Cond.classLink RX4 9 RX10, Cond.fieldLink RX4 14 "RoomForms$Levels" "runs" "LRoomForms$Stretches;"]
def wsX11_init_r5 : List Cond := [Cond.methodLink RX4 3 yX1_init, Cond.methodLink RX4 11 yX10_init, Cond.methodLink RX11 55 yX9_init, Cond.instanceMethod yX9_init, Cond.code yX9_init cX9_init 2 none, Cond.fieldLink RX9 9 "RoomForms$Stack" "top" "I", Cond.methodLink RX9 3 yX1_init, Cond.methodLink RX11 58 yX6_init, Cond.instanceMethod yX6_init, Cond.code yX6_init cX6_init 2 none, Cond.classLink RX6 9 RX10, Cond.fieldLink RX6 14 "RoomForms$Quick" "quick" "LRoomForms$Stretches;", Cond.methodLink RX6 3 yX1_init, Cond.methodLink RX6 11 yX10_init]
def wsX11_init : List Cond := .code yX11_init cX11_init 2 none :: ((wsX11_init_r1 ++ (wsX11_init_r2 ++ (wsX11_init_r3 ++ (wsX11_init_r4 ++ wsX11_init_r5)))) ++ wsX70 ++ wsX110 ++ wsX00 ++ wsX30 ++ wsX50 ++ wsX20 ++ wsX40 ++ wsX90 ++ wsX60 ++ wsX100)
def wsX11_open_r1 : List Cond := [Cond.classLink RX11 59 "java/lang/IllegalArgumentException", Cond.initialized "java/lang/IllegalArgumentException", Cond.fieldLink RX11 10 "RoomForms" "room" "LRoomForms$Room;", Cond.fieldLink RX11 26 "RoomForms" "formNumber" "I", Cond.fieldLink RX11 18 "RoomForms" "forms" "[LRoomForms$Form;", Cond.fieldLink RX11 22 "RoomForms" "form" "LRoomForms$Form;", Cond.methodLink RX11 68 yX7_empty, Cond.instanceMethod yX7_empty, Cond.selects RX7 yX7_empty yX7_empty, Cond.initialized RX7, Cond.code yX7_empty cX7_empty 2 none, Cond.methodLink RX7 49 Lib.Math.max.name, Cond.static Lib.Math.max.name, Cond.initialized "java/lang/Math", Cond.code Lib.Math.max.name Lib.Math.max.code 2 (some .int), Cond.methodLink RX7 55 Lib.Math.min.name, Cond.static Lib.Math.min.name, Cond.code Lib.Math.min.name Lib.Math.min.code 2 (some .int), Cond.fieldLink RX7 36 "RoomForms$Room" "words" "I", Cond.fieldLink RX7 40 "RoomForms$Room" "blocks" "I", Cond.fieldLink RX7 43 "RoomForms$Room" "given" "I", Cond.fieldLink RX7 46 "RoomForms$Room" "looked" "I", Cond.fieldLink RX7 9 "RoomForms$Room" "owners" "[I", Cond.methodLink RX7 58 yJ7_fill_53178]
def wsX11_open_r2 : List Cond := [Cond.static yJ7_fill_53178, Cond.initialized RJ7, Cond.code yJ7_fill_53178 cJ7_fill_53178 4 none, Cond.methodLink RX11 72 ⟨"RoomForms$Form", "begin", "()V"⟩, Cond.sameMethod "RoomForms$Form" "RoomForms$Form" "begin" "()V", Cond.selects RX0 ⟨"RoomForms$Form", "begin", "()V"⟩ yX0_begin, Cond.instanceMethod yX0_begin, Cond.initialized RX0, Cond.code yX0_begin cX0_begin 1 none, Cond.fieldLink RX0 9 "RoomForms$Fits" "lastEnd" "I", Cond.selects RX2 ⟨"RoomForms$Form", "begin", "()V"⟩ yX2_begin, Cond.instanceMethod yX2_begin, Cond.initialized RX2, Cond.code yX2_begin cX2_begin 1 none, Cond.fieldLink RX2 15 "RoomForms$Grains" "room" "LRoomForms$Room;", Cond.sameField "RoomForms$Grains" "RoomForms$Form" "room" "LRoomForms$Room;", Cond.fieldLink RX2 9 "RoomForms$Grains" "grains" "I", Cond.methodLink RX2 19 yX7_words, Cond.instanceMethod yX7_words, Cond.selects RX7 yX7_words yX7_words, Cond.code yX7_words cX7_words 1 (some .int), Cond.selects RX3 ⟨"RoomForms$Form", "begin", "()V"⟩ yX3_begin, Cond.instanceMethod yX3_begin, Cond.initialized RX3]
def wsX11_open_r3 : List Cond := [Cond.code yX3_begin cX3_begin 2 none, Cond.fieldLink RX3 19 "RoomForms$Halves" "room" "LRoomForms$Room;", Cond.sameField "RoomForms$Halves" "RoomForms$Form" "room" "LRoomForms$Room;", Cond.fieldLink RX3 15 "RoomForms$Halves" "whole" "I", Cond.fieldLink RX3 9 "RoomForms$Halves" "pieces" "[I", Cond.methodLink RX3 23 yX7_words, Cond.static yX11_powerFrom, Cond.initialized RX11, Cond.code yX11_powerFrom cX11_powerFrom 2 (some .int), Cond.methodLink RX3 33 yJ7_fill_53178, Cond.selects RX4 ⟨"RoomForms$Form", "begin", "()V"⟩ yX4_begin, Cond.instanceMethod yX4_begin, Cond.initialized RX4, Cond.code yX4_begin cX4_begin 1 none, Cond.fieldLink RX4 14 "RoomForms$Levels" "runs" "LRoomForms$Stretches;", Cond.fieldLink RX4 24 "RoomForms$Levels" "room" "LRoomForms$Room;", Cond.sameField "RoomForms$Levels" "RoomForms$Form" "room" "LRoomForms$Room;", Cond.methodLink RX4 20 yX10_clear, Cond.instanceMethod yX10_clear, Cond.selects RX10 yX10_clear yX10_clear, Cond.initialized RX10, Cond.code yX10_clear cX10_clear 1 none, Cond.fieldLink RX10 9 "RoomForms$Stretches" "size" "I", Cond.methodLink RX4 28 yX7_words]
def wsX11_open_r4 : List Cond := [Cond.methodLink RX4 34 yX10_add, Cond.instanceMethod yX10_add, Cond.selects RX10 yX10_add yX10_add, Cond.code yX10_add cX10_add 3 none, Cond.fieldLink RX10 24 "RoomForms$Stretches" "places" "[I", Cond.fieldLink RX10 28 "RoomForms$Stretches" "words" "[I", Cond.selects RX5 ⟨"RoomForms$Form", "begin", "()V"⟩ yX5_begin, Cond.instanceMethod yX5_begin, Cond.initialized RX5, Cond.code yX5_begin cX5_begin 1 none, Cond.fieldLink RX5 22 "RoomForms$Pages" "room" "LRoomForms$Room;", Cond.sameField "RoomForms$Pages" "RoomForms$Form" "room" "LRoomForms$Room;", Cond.fieldLink RX5 18 "RoomForms$Pages" "pages" "I", Cond.fieldLink RX5 11 "RoomForms$Pages" "spans" "[I", Cond.fieldLink RX5 15 "RoomForms$Pages" "blocks" "[I", Cond.methodLink RX5 26 yX7_words, Cond.methodLink RX5 32 yJ7_fill_53178, Cond.selects RX6 ⟨"RoomForms$Form", "begin", "()V"⟩ yX6_begin, Cond.instanceMethod yX6_begin, Cond.initialized RX6, Cond.code yX6_begin cX6_begin 1 none, Cond.fieldLink RX6 14 "RoomForms$Quick" "quick" "LRoomForms$Stretches;", Cond.methodLink RX6 20 yX10_clear, Cond.selects RX9 ⟨"RoomForms$Form", "begin", "()V"⟩ yX9_begin]
def wsX11_open_r5 : List Cond := [Cond.instanceMethod yX9_begin, Cond.initialized RX9, Cond.code yX9_begin cX9_begin 1 none, Cond.fieldLink RX9 9 "RoomForms$Stack" "top" "I"]
def wsX11_open : List Cond := .code yX11_open cX11_open 3 none :: ((wsX11_open_r1 ++ (wsX11_open_r2 ++ (wsX11_open_r3 ++ (wsX11_open_r4 ++ wsX11_open_r5)))) ++ wsX110 ++ wsX70 ++ wsX00 ++ wsX20 ++ wsX30 ++ wsX40 ++ wsX50 ++ wsX60 ++ wsX90 ++ wsX100 ++ (vx_atS RX11 63 "java/lang/IllegalArgumentException" ["java/lang/RuntimeException", "java/lang/Exception"]).filter goodWord)
def wsX11_needRoom : List Cond := .code yX11_needRoom cX11_needRoom 1 none :: ([.classLink RX11 204 "java/lang/IllegalStateException", .initialized "java/lang/IllegalStateException", .fieldLink RX11 22 "RoomForms" "form" "LRoomForms$Form;"] ++ wsX110 ++ (vx_atS RX11 208 "java/lang/IllegalStateException" ["java/lang/RuntimeException", "java/lang/Exception"]).filter goodWord)
def wsX11_give_r1 : List Cond := [Cond.classLink RX11 59 "java/lang/IllegalArgumentException", Cond.initialized "java/lang/IllegalArgumentException", Cond.classLink RX11 84 "java/lang/IndexOutOfBoundsException", Cond.initialized "java/lang/IndexOutOfBoundsException", Cond.fieldLink RX11 10 "RoomForms" "room" "LRoomForms$Room;", Cond.fieldLink RX11 22 "RoomForms" "form" "LRoomForms$Form;", Cond.methodLink RX11 77 yX11_needRoom, Cond.instanceMethod yX11_needRoom, Cond.selects RX11 yX11_needRoom yX11_needRoom, Cond.initialized RX11, Cond.code yX11_needRoom cX11_needRoom 1 none, Cond.classLink RX11 204 "java/lang/IllegalStateException", Cond.initialized "java/lang/IllegalStateException", Cond.methodLink RX11 80 yX7_blocks, Cond.instanceMethod yX7_blocks, Cond.selects RX7 yX7_blocks yX7_blocks, Cond.initialized RX7, Cond.code yX7_blocks cX7_blocks 1 (some .int), Cond.fieldLink RX7 40 "RoomForms$Room" "blocks" "I", Cond.methodLink RX11 89 ⟨"RoomForms$Form", "spanOf", "(I)I"⟩, Cond.sameMethod "RoomForms$Form" "RoomForms$Form" "spanOf" "(I)I", Cond.selects RX0 ⟨"RoomForms$Form", "spanOf", "(I)I"⟩ yX1_spanOf, Cond.instanceMethod yX1_spanOf, Cond.initialized RX1]
def wsX11_give_r2 : List Cond := [Cond.code yX1_spanOf cX1_spanOf 2 (some .int), Cond.instanceMethod ⟨"RoomForms$Form", "spanOf", "(I)I"⟩, Cond.selects RX2 ⟨"RoomForms$Form", "spanOf", "(I)I"⟩ yX2_spanOf, Cond.instanceMethod yX2_spanOf, Cond.initialized RX2, Cond.code yX2_spanOf cX2_spanOf 2 (some .int), Cond.selects RX3 ⟨"RoomForms$Form", "spanOf", "(I)I"⟩ yX3_spanOf, Cond.instanceMethod yX3_spanOf, Cond.initialized RX3, Cond.code yX3_spanOf cX3_spanOf 2 (some .int), Cond.static yX11_powerFrom, Cond.code yX11_powerFrom cX11_powerFrom 2 (some .int), Cond.selects RX4 ⟨"RoomForms$Form", "spanOf", "(I)I"⟩ yX1_spanOf, Cond.selects RX5 ⟨"RoomForms$Form", "spanOf", "(I)I"⟩ yX5_spanOf, Cond.instanceMethod yX5_spanOf, Cond.initialized RX5, Cond.code yX5_spanOf cX5_spanOf 2 (some .int), Cond.selects RX6 ⟨"RoomForms$Form", "spanOf", "(I)I"⟩ yX1_spanOf, Cond.selects RX9 ⟨"RoomForms$Form", "spanOf", "(I)I"⟩ yX1_spanOf, Cond.methodLink RX11 93 ⟨"RoomForms$Form", "take", "(I)I"⟩, Cond.sameMethod "RoomForms$Form" "RoomForms$Form" "take" "(I)I", Cond.selects RX0 ⟨"RoomForms$Form", "take", "(I)I"⟩ yX0_take, Cond.instanceMethod yX0_take, Cond.initialized RX0]
def wsX11_give_r3 : List Cond := [Cond.code yX0_take cX0_take 4 (some .int), Cond.fieldLink RX0 18 "RoomForms$Fits" "room" "LRoomForms$Room;", Cond.sameField "RoomForms$Fits" "RoomForms$Form" "room" "LRoomForms$Room;", Cond.fieldLink RX0 15 "RoomForms$Fits" "number" "I", Cond.fieldLink RX0 9 "RoomForms$Fits" "lastEnd" "I", Cond.methodLink RX0 22 yX7_listRuns, Cond.instanceMethod yX7_listRuns, Cond.selects RX7 yX7_listRuns yX7_listRuns, Cond.code yX7_listRuns cX7_listRuns 3 (some (.object "RoomForms$Stretches")), Cond.fieldLink RX7 32 "RoomForms$Room" "runs" "LRoomForms$Stretches;", Cond.fieldLink RX7 36 "RoomForms$Room" "words" "I", Cond.methodLink RX7 68 yX10_clear, Cond.instanceMethod yX10_clear, Cond.selects RX10 yX10_clear yX10_clear, Cond.initialized RX10, Cond.code yX10_clear cX10_clear 1 none, Cond.fieldLink RX10 9 "RoomForms$Stretches" "size" "I", Cond.methodLink RX7 71 yX7_isFree, Cond.instanceMethod yX7_isFree, Cond.selects RX7 yX7_isFree yX7_isFree, Cond.code yX7_isFree cX7_isFree 2 (some .boolean), Cond.fieldLink RX7 9 "RoomForms$Room" "owners" "[I", Cond.methodLink RX7 75 yX10_add, Cond.instanceMethod yX10_add]
def wsX11_give_r4 : List Cond := [Cond.selects RX10 yX10_add yX10_add, Cond.code yX10_add cX10_add 3 none, Cond.fieldLink RX10 24 "RoomForms$Stretches" "places" "[I", Cond.fieldLink RX10 28 "RoomForms$Stretches" "words" "[I", Cond.methodLink RX0 28 yX10_find, Cond.instanceMethod yX10_find, Cond.selects RX10 yX10_find yX10_find, Cond.code yX10_find cX10_find 4 (some .int), Cond.fieldLink RX10 15 "RoomForms$Stretches" "looked" "I", Cond.methodLink RX10 37 yX10_nextFit, Cond.instanceMethod yX10_nextFit, Cond.selects RX10 yX10_nextFit yX10_nextFit, Cond.code yX10_nextFit cX10_nextFit 6 (some .int), Cond.methodLink RX10 18 Lib.Math.max.name, Cond.static Lib.Math.max.name, Cond.initialized "java/lang/Math", Cond.code Lib.Math.max.name Lib.Math.max.code 2 (some .int), Cond.methodLink RX10 40 yX10_bestFit, Cond.instanceMethod yX10_bestFit, Cond.selects RX10 yX10_bestFit yX10_bestFit, Cond.code yX10_bestFit cX10_bestFit 4 (some .int), Cond.methodLink RX10 50 yX10_placeOf, Cond.instanceMethod yX10_placeOf, Cond.selects RX10 yX10_placeOf yX10_placeOf]
def wsX11_give_r5 : List Cond := [Cond.code yX10_placeOf cX10_placeOf 2 (some .int), Cond.methodLink RX10 44 yX10_greatestFit, Cond.instanceMethod yX10_greatestFit, Cond.selects RX10 yX10_greatestFit yX10_greatestFit, Cond.code yX10_greatestFit cX10_greatestFit 4 (some .int), Cond.methodLink RX10 47 yX10_firstFit, Cond.instanceMethod yX10_firstFit, Cond.selects RX10 yX10_firstFit yX10_firstFit, Cond.code yX10_firstFit cX10_firstFit 3 (some .int), Cond.methodLink RX0 34 yX10_looked, Cond.instanceMethod yX10_looked, Cond.selects RX10 yX10_looked yX10_looked, Cond.code yX10_looked cX10_looked 1 (some .int), Cond.methodLink RX0 38 yX7_addLooked, Cond.instanceMethod yX7_addLooked, Cond.selects RX7 yX7_addLooked yX7_addLooked, Cond.code yX7_addLooked cX7_addLooked 2 none, Cond.fieldLink RX7 46 "RoomForms$Room" "looked" "I", Cond.selects RX2 ⟨"RoomForms$Form", "take", "(I)I"⟩ yX2_take, Cond.instanceMethod yX2_take, Cond.code yX2_take cX2_take 5 (some .int), Cond.methodLink RX2 29 Lib.Math.min.name, Cond.static Lib.Math.min.name, Cond.code Lib.Math.min.name Lib.Math.min.code 2 (some .int)]
def wsX11_give_r6 : List Cond := [Cond.fieldLink RX2 9 "RoomForms$Grains" "grains" "I", Cond.fieldLink RX2 15 "RoomForms$Grains" "room" "LRoomForms$Room;", Cond.sameField "RoomForms$Grains" "RoomForms$Form" "room" "LRoomForms$Room;", Cond.methodLink RX2 35 yX7_addLooked, Cond.methodLink RX2 39 yX2_areFree, Cond.instanceMethod yX2_areFree, Cond.selects RX2 yX2_areFree yX2_areFree, Cond.code yX2_areFree cX2_areFree 4 (some .boolean), Cond.methodLink RX2 43 yX7_isFree, Cond.selects RX3 ⟨"RoomForms$Form", "take", "(I)I"⟩ yX3_take, Cond.instanceMethod yX3_take, Cond.code yX3_take cX3_take 4 (some .int), Cond.fieldLink RX3 19 "RoomForms$Halves" "room" "LRoomForms$Room;", Cond.sameField "RoomForms$Halves" "RoomForms$Form" "room" "LRoomForms$Room;", Cond.fieldLink RX3 9 "RoomForms$Halves" "pieces" "[I", Cond.fieldLink RX3 15 "RoomForms$Halves" "whole" "I", Cond.methodLink RX3 39 yX3_freeParts, Cond.instanceMethod yX3_freeParts, Cond.selects RX3 yX3_freeParts yX3_freeParts, Cond.code yX3_freeParts cX3_freeParts 3 (some .int), Cond.methodLink RX3 42 yX7_addLooked, Cond.methodLink RX3 46 yX3_smallestPiece, Cond.instanceMethod yX3_smallestPiece, Cond.selects RX3 yX3_smallestPiece yX3_smallestPiece]
def wsX11_give_r7 : List Cond := [Cond.code yX3_smallestPiece cX3_smallestPiece 4 (some .int), Cond.selects RX4 ⟨"RoomForms$Form", "take", "(I)I"⟩ yX4_take, Cond.instanceMethod yX4_take, Cond.initialized RX4, Cond.code yX4_take cX4_take 5 (some .int), Cond.fieldLink RX4 14 "RoomForms$Levels" "runs" "LRoomForms$Stretches;", Cond.methodLink RX4 38 yX4_findInListOf, Cond.instanceMethod yX4_findInListOf, Cond.selects RX4 yX4_findInListOf yX4_findInListOf, Cond.code yX4_findInListOf cX4_findInListOf 4 (some .int), Cond.fieldLink RX4 24 "RoomForms$Levels" "room" "LRoomForms$Room;", Cond.sameField "RoomForms$Levels" "RoomForms$Form" "room" "LRoomForms$Room;", Cond.methodLink RX4 42 yX4_listOf, Cond.static yX4_listOf, Cond.code yX4_listOf cX4_listOf 4 (some .int), Cond.methodLink RX4 57 yX10_size, Cond.instanceMethod yX10_size, Cond.selects RX10 yX10_size yX10_size, Cond.code yX10_size cX10_size 1 (some .int), Cond.methodLink RX4 51 yX10_wordsOf, Cond.instanceMethod yX10_wordsOf, Cond.selects RX10 yX10_wordsOf yX10_wordsOf, Cond.code yX10_wordsOf cX10_wordsOf 2 (some .int), Cond.methodLink RX4 60 yX7_addLooked]
def wsX11_give_r8 : List Cond := [Cond.methodLink RX4 45 yX4_firstOfLaterList, Cond.instanceMethod yX4_firstOfLaterList, Cond.selects RX4 yX4_firstOfLaterList yX4_firstOfLaterList, Cond.code yX4_firstOfLaterList cX4_firstOfLaterList 6 (some .int), Cond.methodLink RX4 48 yX10_placeOf, Cond.methodLink RX4 54 yX10_remove, Cond.instanceMethod yX10_remove, Cond.selects RX10 yX10_remove yX10_remove, Cond.code yX10_remove cX10_remove 2 none, Cond.methodLink RX10 31 arraycopyName, Cond.native arraycopyName, Cond.static arraycopyName, Cond.initialized "java/lang/System", Cond.methodLink RX4 34 yX10_add, Cond.selects RX5 ⟨"RoomForms$Form", "take", "(I)I"⟩ yX5_take, Cond.instanceMethod yX5_take, Cond.code yX5_take cX5_take 3 (some .int), Cond.methodLink RX5 42 yX5_takeRow, Cond.instanceMethod yX5_takeRow, Cond.selects RX5 yX5_takeRow yX5_takeRow, Cond.code yX5_takeRow cX5_takeRow 6 (some .int), Cond.fieldLink RX5 18 "RoomForms$Pages" "pages" "I", Cond.fieldLink RX5 22 "RoomForms$Pages" "room" "LRoomForms$Room;", Cond.sameField "RoomForms$Pages" "RoomForms$Form" "room" "LRoomForms$Room;"]
def wsX11_give_r9 : List Cond := [Cond.fieldLink RX5 11 "RoomForms$Pages" "spans" "[I", Cond.methodLink RX5 49 yX7_addLooked, Cond.methodLink RX5 65 yX5_setPages, Cond.instanceMethod yX5_setPages, Cond.selects RX5 yX5_setPages yX5_setPages, Cond.code yX5_setPages cX5_setPages 5 none, Cond.methodLink RX5 60 Lib.Math.max.name, Cond.fieldLink RX5 15 "RoomForms$Pages" "blocks" "[I", Cond.methodLink RX5 46 yX5_takeInPageOf, Cond.instanceMethod yX5_takeInPageOf, Cond.selects RX5 yX5_takeInPageOf yX5_takeInPageOf, Cond.code yX5_takeInPageOf cX5_takeInPageOf 4 (some .int), Cond.methodLink RX5 53 yX5_freePlaceIn, Cond.instanceMethod yX5_freePlaceIn, Cond.selects RX5 yX5_freePlaceIn yX5_freePlaceIn, Cond.code yX5_freePlaceIn cX5_freePlaceIn 5 (some .int), Cond.methodLink RX5 56 yX7_isFree, Cond.selects RX6 ⟨"RoomForms$Form", "take", "(I)I"⟩ yX6_take, Cond.instanceMethod yX6_take, Cond.initialized RX6, Cond.code yX6_take cX6_take 3 (some .int), Cond.methodLink RX6 24 yX6_takeQuick, Cond.instanceMethod yX6_takeQuick, Cond.selects RX6 yX6_takeQuick yX6_takeQuick]
def wsX11_give_r10 : List Cond := [Cond.code yX6_takeQuick cX6_takeQuick 4 (some .int), Cond.fieldLink RX6 14 "RoomForms$Quick" "quick" "LRoomForms$Stretches;", Cond.methodLink RX6 34 yX10_size, Cond.methodLink RX6 38 yX10_wordsOf, Cond.methodLink RX6 41 yX10_placeOf, Cond.methodLink RX6 44 yX10_remove, Cond.methodLink RX6 28 yX6_takeFirst, Cond.instanceMethod yX6_takeFirst, Cond.selects RX6 yX6_takeFirst yX6_takeFirst, Cond.code yX6_takeFirst cX6_takeFirst 4 (some .int), Cond.fieldLink RX6 47 "RoomForms$Quick" "room" "LRoomForms$Room;", Cond.sameField "RoomForms$Quick" "RoomForms$Form" "room" "LRoomForms$Room;", Cond.methodLink RX6 51 yX7_listRuns, Cond.methodLink RX6 57 yX10_find, Cond.methodLink RX6 61 yX10_looked, Cond.methodLink RX6 64 yX7_addLooked, Cond.methodLink RX6 31 yX6_emptyRows, Cond.instanceMethod yX6_emptyRows, Cond.selects RX6 yX6_emptyRows yX6_emptyRows, Cond.code yX6_emptyRows cX6_emptyRows 2 none, Cond.methodLink RX6 67 yX7_markFree, Cond.instanceMethod yX7_markFree, Cond.selects RX7 yX7_markFree yX7_markFree, Cond.code yX7_markFree cX7_markFree 3 none]
def wsX11_give_r11 : List Cond := [Cond.methodLink RX7 64 yX7_mark, Cond.instanceMethod yX7_mark, Cond.selects RX7 yX7_mark yX7_mark, Cond.code yX7_mark cX7_mark 6 none, Cond.methodLink RX7 55 Lib.Math.min.name, Cond.methodLink RX7 49 Lib.Math.max.name, Cond.methodLink RX6 20 yX10_clear, Cond.selects RX9 ⟨"RoomForms$Form", "take", "(I)I"⟩ yX9_take, Cond.instanceMethod yX9_take, Cond.initialized RX9, Cond.code yX9_take cX9_take 3 (some .int), Cond.fieldLink RX9 15 "RoomForms$Stack" "room" "LRoomForms$Room;", Cond.sameField "RoomForms$Stack" "RoomForms$Form" "room" "LRoomForms$Room;", Cond.fieldLink RX9 9 "RoomForms$Stack" "top" "I", Cond.methodLink RX9 19 yX7_addLooked, Cond.methodLink RX9 25 yX7_words, Cond.instanceMethod yX7_words, Cond.selects RX7 yX7_words yX7_words, Cond.code yX7_words cX7_words 1 (some .int), Cond.methodLink RX11 96 yX7_settle, Cond.instanceMethod yX7_settle, Cond.selects RX7 yX7_settle yX7_settle, Cond.code yX7_settle cX7_settle 5 (some .int), Cond.fieldLink RX7 43 "RoomForms$Room" "given" "I"]
def wsX11_give_r12 : List Cond := [Cond.fieldLink RX7 15 "RoomForms$Room" "numbers" "[I", Cond.fieldLink RX7 18 "RoomForms$Room" "places" "[I", Cond.fieldLink RX7 21 "RoomForms$Room" "spans" "[I", Cond.fieldLink RX7 24 "RoomForms$Room" "asked" "[I"]
def wsX11_give : List Cond := .code yX11_give cX11_give 4 (some .int) :: ((wsX11_give_r1 ++ (wsX11_give_r2 ++ (wsX11_give_r3 ++ (wsX11_give_r4 ++ (wsX11_give_r5 ++ (wsX11_give_r6 ++ (wsX11_give_r7 ++ (wsX11_give_r8 ++ (wsX11_give_r9 ++ (wsX11_give_r10 ++ (wsX11_give_r11 ++ wsX11_give_r12))))))))))) ++ wsX110 ++ wsX70 ++ wsX00 ++ wsX20 ++ wsX30 ++ wsX40 ++ wsX50 ++ wsX60 ++ wsX90 ++ wsX100 ++ (vx_atS RX11 63 "java/lang/IllegalArgumentException" ["java/lang/RuntimeException", "java/lang/Exception"]).filter goodWord ++ (vx_atS RX11 88 "java/lang/IndexOutOfBoundsException" ["java/lang/RuntimeException", "java/lang/Exception"]).filter goodWord ++ (vx_atS RX11 208 "java/lang/IllegalStateException" ["java/lang/RuntimeException", "java/lang/Exception"]).filter goodWord)
def wsX11_needBlock : List Cond := .code yX11_needBlock cX11_needBlock 3 (some .int) :: ([.classLink RX11 212 "java/util/NoSuchElementException", .initialized "java/util/NoSuchElementException", .fieldLink RX11 10 "RoomForms" "room" "LRoomForms$Room;", .methodLink RX11 209 yX7_slotOf, .instanceMethod yX7_slotOf, .selects RX7 yX7_slotOf yX7_slotOf, .initialized RX7, .code yX7_slotOf cX7_slotOf 3 (some .int), .fieldLink RX7 40 "RoomForms$Room" "blocks" "I", .fieldLink RX7 15 "RoomForms$Room" "numbers" "[I"] ++ wsX110 ++ wsX70 ++ (zz_atN RX11 216 "java/util/NoSuchElementException" "java/lang/RuntimeException" ["java/lang/Exception"]).filter goodWord)
def wsX11_back_r1 : List Cond := [Cond.fieldLink RX11 10 "RoomForms" "room" "LRoomForms$Room;", Cond.fieldLink RX11 22 "RoomForms" "form" "LRoomForms$Form;", Cond.methodLink RX11 77 yX11_needRoom, Cond.instanceMethod yX11_needRoom, Cond.selects RX11 yX11_needRoom yX11_needRoom, Cond.initialized RX11, Cond.code yX11_needRoom cX11_needRoom 1 none, Cond.classLink RX11 204 "java/lang/IllegalStateException", Cond.initialized "java/lang/IllegalStateException", Cond.methodLink RX11 100 yX11_needBlock, Cond.instanceMethod yX11_needBlock, Cond.selects RX11 yX11_needBlock yX11_needBlock, Cond.code yX11_needBlock cX11_needBlock 3 (some .int), Cond.classLink RX11 212 "java/util/NoSuchElementException", Cond.initialized "java/util/NoSuchElementException", Cond.methodLink RX11 209 yX7_slotOf, Cond.instanceMethod yX7_slotOf, Cond.selects RX7 yX7_slotOf yX7_slotOf, Cond.initialized RX7, Cond.code yX7_slotOf cX7_slotOf 3 (some .int), Cond.fieldLink RX7 40 "RoomForms$Room" "blocks" "I", Cond.fieldLink RX7 15 "RoomForms$Room" "numbers" "[I", Cond.methodLink RX11 103 yX7_placeOf, Cond.instanceMethod yX7_placeOf]
def wsX11_back_r2 : List Cond := [Cond.selects RX7 yX7_placeOf yX7_placeOf, Cond.code yX7_placeOf cX7_placeOf 2 (some .int), Cond.fieldLink RX7 18 "RoomForms$Room" "places" "[I", Cond.methodLink RX11 106 yX7_spanOf, Cond.instanceMethod yX7_spanOf, Cond.selects RX7 yX7_spanOf yX7_spanOf, Cond.code yX7_spanOf cX7_spanOf 2 (some .int), Cond.fieldLink RX7 21 "RoomForms$Room" "spans" "[I", Cond.methodLink RX11 107 yX7_remove, Cond.instanceMethod yX7_remove, Cond.selects RX7 yX7_remove yX7_remove, Cond.code yX7_remove cX7_remove 2 none, Cond.fieldLink RX7 24 "RoomForms$Room" "asked" "[I", Cond.methodLink RX7 64 yX7_mark, Cond.instanceMethod yX7_mark, Cond.selects RX7 yX7_mark yX7_mark, Cond.code yX7_mark cX7_mark 6 none, Cond.fieldLink RX7 36 "RoomForms$Room" "words" "I", Cond.methodLink RX7 55 Lib.Math.min.name, Cond.static Lib.Math.min.name, Cond.initialized "java/lang/Math", Cond.code Lib.Math.min.name Lib.Math.min.code 2 (some .int), Cond.methodLink RX7 49 Lib.Math.max.name, Cond.static Lib.Math.max.name]
def wsX11_back_r3 : List Cond := [Cond.code Lib.Math.max.name Lib.Math.max.code 2 (some .int), Cond.fieldLink RX7 9 "RoomForms$Room" "owners" "[I", Cond.methodLink RX11 110 ⟨"RoomForms$Form", "takeBack", "(II)V"⟩, Cond.sameMethod "RoomForms$Form" "RoomForms$Form" "takeBack" "(II)V", Cond.selects RX0 ⟨"RoomForms$Form", "takeBack", "(II)V"⟩ yX0_takeBack, Cond.instanceMethod yX0_takeBack, Cond.initialized RX0, Cond.code yX0_takeBack cX0_takeBack 3 none, Cond.selects RX2 ⟨"RoomForms$Form", "takeBack", "(II)V"⟩ yX2_takeBack, Cond.instanceMethod yX2_takeBack, Cond.initialized RX2, Cond.code yX2_takeBack cX2_takeBack 3 none, Cond.selects RX3 ⟨"RoomForms$Form", "takeBack", "(II)V"⟩ yX3_takeBack, Cond.instanceMethod yX3_takeBack, Cond.initialized RX3, Cond.code yX3_takeBack cX3_takeBack 6 none, Cond.fieldLink RX3 15 "RoomForms$Halves" "whole" "I", Cond.fieldLink RX3 9 "RoomForms$Halves" "pieces" "[I", Cond.methodLink RX3 49 Lib.Math.min.name, Cond.selects RX4 ⟨"RoomForms$Form", "takeBack", "(II)V"⟩ yX4_takeBack, Cond.instanceMethod yX4_takeBack, Cond.initialized RX4, Cond.code yX4_takeBack cX4_takeBack 6 none, Cond.fieldLink RX4 14 "RoomForms$Levels" "runs" "LRoomForms$Stretches;"]
def wsX11_back_r4 : List Cond := [Cond.methodLink RX4 57 yX10_size, Cond.instanceMethod yX10_size, Cond.selects RX10 yX10_size yX10_size, Cond.initialized RX10, Cond.code yX10_size cX10_size 1 (some .int), Cond.fieldLink RX10 9 "RoomForms$Stretches" "size" "I", Cond.methodLink RX4 63 yX10_endOf, Cond.instanceMethod yX10_endOf, Cond.selects RX10 yX10_endOf yX10_endOf, Cond.code yX10_endOf cX10_endOf 2 (some .int), Cond.fieldLink RX10 24 "RoomForms$Stretches" "places" "[I", Cond.fieldLink RX10 28 "RoomForms$Stretches" "words" "[I", Cond.methodLink RX4 48 yX10_placeOf, Cond.instanceMethod yX10_placeOf, Cond.selects RX10 yX10_placeOf yX10_placeOf, Cond.code yX10_placeOf cX10_placeOf 2 (some .int), Cond.methodLink RX4 54 yX10_remove, Cond.instanceMethod yX10_remove, Cond.selects RX10 yX10_remove yX10_remove, Cond.code yX10_remove cX10_remove 2 none, Cond.methodLink RX10 31 arraycopyName, Cond.native arraycopyName, Cond.static arraycopyName, Cond.initialized "java/lang/System"]
def wsX11_back_r5 : List Cond := [Cond.methodLink RX4 34 yX10_add, Cond.instanceMethod yX10_add, Cond.selects RX10 yX10_add yX10_add, Cond.code yX10_add cX10_add 3 none, Cond.selects RX5 ⟨"RoomForms$Form", "takeBack", "(II)V"⟩ yX5_takeBack, Cond.instanceMethod yX5_takeBack, Cond.initialized RX5, Cond.code yX5_takeBack cX5_takeBack 4 none, Cond.fieldLink RX5 18 "RoomForms$Pages" "pages" "I", Cond.fieldLink RX5 15 "RoomForms$Pages" "blocks" "[I", Cond.methodLink RX5 65 yX5_setPages, Cond.instanceMethod yX5_setPages, Cond.selects RX5 yX5_setPages yX5_setPages, Cond.code yX5_setPages cX5_setPages 5 none, Cond.methodLink RX5 60 Lib.Math.max.name, Cond.fieldLink RX5 11 "RoomForms$Pages" "spans" "[I", Cond.selects RX6 ⟨"RoomForms$Form", "takeBack", "(II)V"⟩ yX6_takeBack, Cond.instanceMethod yX6_takeBack, Cond.initialized RX6, Cond.code yX6_takeBack cX6_takeBack 3 none, Cond.fieldLink RX6 14 "RoomForms$Quick" "quick" "LRoomForms$Stretches;", Cond.fieldLink RX6 47 "RoomForms$Quick" "room" "LRoomForms$Room;", Cond.sameField "RoomForms$Quick" "RoomForms$Form" "room" "LRoomForms$Room;", Cond.methodLink RX6 71 yX10_add]
def wsX11_back_r6 : List Cond := [Cond.methodLink RX6 74 yX7_markQuick, Cond.instanceMethod yX7_markQuick, Cond.selects RX7 yX7_markQuick yX7_markQuick, Cond.code yX7_markQuick cX7_markQuick 3 none, Cond.selects RX9 ⟨"RoomForms$Form", "takeBack", "(II)V"⟩ yX9_takeBack, Cond.instanceMethod yX9_takeBack, Cond.initialized RX9, Cond.code yX9_takeBack cX9_takeBack 3 none, Cond.fieldLink RX9 9 "RoomForms$Stack" "top" "I", Cond.fieldLink RX9 15 "RoomForms$Stack" "room" "LRoomForms$Room;", Cond.sameField "RoomForms$Stack" "RoomForms$Form" "room" "LRoomForms$Room;", Cond.methodLink RX9 29 yX7_isFree, Cond.instanceMethod yX7_isFree, Cond.selects RX7 yX7_isFree yX7_isFree, Cond.code yX7_isFree cX7_isFree 2 (some .boolean)]
def wsX11_back : List Cond := .code yX11_back cX11_back 5 (some .int) :: ((wsX11_back_r1 ++ (wsX11_back_r2 ++ (wsX11_back_r3 ++ (wsX11_back_r4 ++ (wsX11_back_r5 ++ wsX11_back_r6))))) ++ wsX110 ++ wsX70 ++ wsX30 ++ wsX40 ++ wsX100 ++ wsX50 ++ wsX60 ++ wsX00 ++ wsX20 ++ wsX90 ++ (vx_atS RX11 208 "java/lang/IllegalStateException" ["java/lang/RuntimeException", "java/lang/Exception"]).filter goodWord ++ (zz_atN RX11 216 "java/util/NoSuchElementException" "java/lang/RuntimeException" ["java/lang/Exception"]).filter goodWord)
def wsX11_about_r1 : List Cond := [Cond.classLink RX11 59 "java/lang/IllegalArgumentException", Cond.initialized "java/lang/IllegalArgumentException", Cond.fieldLink RX11 10 "RoomForms" "room" "LRoomForms$Room;", Cond.methodLink RX11 77 yX11_needRoom, Cond.instanceMethod yX11_needRoom, Cond.selects RX11 yX11_needRoom yX11_needRoom, Cond.initialized RX11, Cond.code yX11_needRoom cX11_needRoom 1 none, Cond.classLink RX11 204 "java/lang/IllegalStateException", Cond.initialized "java/lang/IllegalStateException", Cond.fieldLink RX11 22 "RoomForms" "form" "LRoomForms$Form;", Cond.methodLink RX11 100 yX11_needBlock, Cond.instanceMethod yX11_needBlock, Cond.selects RX11 yX11_needBlock yX11_needBlock, Cond.code yX11_needBlock cX11_needBlock 3 (some .int), Cond.classLink RX11 212 "java/util/NoSuchElementException", Cond.initialized "java/util/NoSuchElementException", Cond.methodLink RX11 209 yX7_slotOf, Cond.instanceMethod yX7_slotOf, Cond.selects RX7 yX7_slotOf yX7_slotOf, Cond.initialized RX7, Cond.code yX7_slotOf cX7_slotOf 3 (some .int), Cond.fieldLink RX7 40 "RoomForms$Room" "blocks" "I", Cond.fieldLink RX7 15 "RoomForms$Room" "numbers" "[I"]
def wsX11_about_r2 : List Cond := [Cond.methodLink RX11 103 yX7_placeOf, Cond.instanceMethod yX7_placeOf, Cond.selects RX7 yX7_placeOf yX7_placeOf, Cond.code yX7_placeOf cX7_placeOf 2 (some .int), Cond.fieldLink RX7 18 "RoomForms$Room" "places" "[I", Cond.methodLink RX11 106 yX7_spanOf, Cond.instanceMethod yX7_spanOf, Cond.selects RX7 yX7_spanOf yX7_spanOf, Cond.code yX7_spanOf cX7_spanOf 2 (some .int), Cond.fieldLink RX7 21 "RoomForms$Room" "spans" "[I", Cond.methodLink RX11 116 yX7_askedOf, Cond.instanceMethod yX7_askedOf, Cond.selects RX7 yX7_askedOf yX7_askedOf, Cond.code yX7_askedOf cX7_askedOf 2 (some .int), Cond.fieldLink RX7 24 "RoomForms$Room" "asked" "[I"]
def wsX11_about : List Cond := .code yX11_about cX11_about 4 (some .int) :: ((wsX11_about_r1 ++ wsX11_about_r2) ++ wsX110 ++ wsX70 ++ (vx_atS RX11 63 "java/lang/IllegalArgumentException" ["java/lang/RuntimeException", "java/lang/Exception"]).filter goodWord ++ (vx_atS RX11 208 "java/lang/IllegalStateException" ["java/lang/RuntimeException", "java/lang/Exception"]).filter goodWord ++ (zz_atN RX11 216 "java/util/NoSuchElementException" "java/lang/RuntimeException" ["java/lang/Exception"]).filter goodWord)
def wsX11_at_r1 : List Cond := [Cond.classLink RX11 59 "java/lang/IllegalArgumentException", Cond.initialized "java/lang/IllegalArgumentException", Cond.fieldLink RX11 22 "RoomForms" "form" "LRoomForms$Form;", Cond.fieldLink RX11 10 "RoomForms" "room" "LRoomForms$Room;", Cond.methodLink RX11 119 yX7_words, Cond.instanceMethod yX7_words, Cond.selects RX7 yX7_words yX7_words, Cond.initialized RX7, Cond.code yX7_words cX7_words 1 (some .int), Cond.fieldLink RX7 36 "RoomForms$Room" "words" "I", Cond.methodLink RX11 77 yX11_needRoom, Cond.instanceMethod yX11_needRoom, Cond.selects RX11 yX11_needRoom yX11_needRoom, Cond.initialized RX11, Cond.code yX11_needRoom cX11_needRoom 1 none, Cond.classLink RX11 204 "java/lang/IllegalStateException", Cond.initialized "java/lang/IllegalStateException", Cond.methodLink RX11 124 yX7_blockAt, Cond.instanceMethod yX7_blockAt, Cond.selects RX7 yX7_blockAt yX7_blockAt, Cond.code yX7_blockAt cX7_blockAt 2 (some .int), Cond.fieldLink RX7 9 "RoomForms$Room" "owners" "[I", Cond.methodLink RX7 49 Lib.Math.max.name, Cond.static Lib.Math.max.name]
def wsX11_at_r2 : List Cond := [Cond.initialized "java/lang/Math", Cond.code Lib.Math.max.name Lib.Math.max.code 2 (some .int)]
def wsX11_at : List Cond := .code yX11_at cX11_at 3 (some .int) :: ((wsX11_at_r1 ++ wsX11_at_r2) ++ wsX110 ++ wsX70 ++ (vx_atS RX11 63 "java/lang/IllegalArgumentException" ["java/lang/RuntimeException", "java/lang/Exception"]).filter goodWord ++ (vx_atS RX11 208 "java/lang/IllegalStateException" ["java/lang/RuntimeException", "java/lang/Exception"]).filter goodWord)
def wsX11_run_r1 : List Cond := [Cond.classLink RX11 59 "java/lang/IllegalArgumentException", Cond.initialized "java/lang/IllegalArgumentException", Cond.classLink RX11 84 "java/lang/IndexOutOfBoundsException", Cond.initialized "java/lang/IndexOutOfBoundsException", Cond.fieldLink RX11 10 "RoomForms" "room" "LRoomForms$Room;", Cond.methodLink RX11 77 yX11_needRoom, Cond.instanceMethod yX11_needRoom, Cond.selects RX11 yX11_needRoom yX11_needRoom, Cond.initialized RX11, Cond.code yX11_needRoom cX11_needRoom 1 none, Cond.classLink RX11 204 "java/lang/IllegalStateException", Cond.initialized "java/lang/IllegalStateException", Cond.fieldLink RX11 22 "RoomForms" "form" "LRoomForms$Form;", Cond.methodLink RX11 129 yX7_listRuns, Cond.instanceMethod yX7_listRuns, Cond.selects RX7 yX7_listRuns yX7_listRuns, Cond.initialized RX7, Cond.code yX7_listRuns cX7_listRuns 3 (some (.object "RoomForms$Stretches")), Cond.fieldLink RX7 32 "RoomForms$Room" "runs" "LRoomForms$Stretches;", Cond.fieldLink RX7 36 "RoomForms$Room" "words" "I", Cond.methodLink RX7 68 yX10_clear, Cond.instanceMethod yX10_clear, Cond.selects RX10 yX10_clear yX10_clear, Cond.initialized RX10]
def wsX11_run_r2 : List Cond := [Cond.code yX10_clear cX10_clear 1 none, Cond.fieldLink RX10 9 "RoomForms$Stretches" "size" "I", Cond.methodLink RX7 71 yX7_isFree, Cond.instanceMethod yX7_isFree, Cond.selects RX7 yX7_isFree yX7_isFree, Cond.code yX7_isFree cX7_isFree 2 (some .boolean), Cond.fieldLink RX7 9 "RoomForms$Room" "owners" "[I", Cond.methodLink RX7 75 yX10_add, Cond.instanceMethod yX10_add, Cond.selects RX10 yX10_add yX10_add, Cond.code yX10_add cX10_add 3 none, Cond.fieldLink RX10 24 "RoomForms$Stretches" "places" "[I", Cond.fieldLink RX10 28 "RoomForms$Stretches" "words" "[I", Cond.methodLink RX11 133 yX10_size, Cond.instanceMethod yX10_size, Cond.selects RX10 yX10_size yX10_size, Cond.code yX10_size cX10_size 1 (some .int), Cond.methodLink RX11 140 yX10_placeOf, Cond.instanceMethod yX10_placeOf, Cond.selects RX10 yX10_placeOf yX10_placeOf, Cond.code yX10_placeOf cX10_placeOf 2 (some .int), Cond.methodLink RX11 141 yX10_wordsOf, Cond.instanceMethod yX10_wordsOf, Cond.selects RX10 yX10_wordsOf yX10_wordsOf]
def wsX11_run_r3 : List Cond := [Cond.code yX10_wordsOf cX10_wordsOf 2 (some .int)]
def wsX11_run : List Cond := .code yX11_run cX11_run 4 (some .int) :: ((wsX11_run_r1 ++ (wsX11_run_r2 ++ wsX11_run_r3)) ++ wsX110 ++ wsX70 ++ wsX100 ++ (vx_atS RX11 63 "java/lang/IllegalArgumentException" ["java/lang/RuntimeException", "java/lang/Exception"]).filter goodWord ++ (vx_atS RX11 88 "java/lang/IndexOutOfBoundsException" ["java/lang/RuntimeException", "java/lang/Exception"]).filter goodWord ++ (vx_atS RX11 208 "java/lang/IllegalStateException" ["java/lang/RuntimeException", "java/lang/Exception"]).filter goodWord)
def wsX11_list_r1 : List Cond := [Cond.classLink RX11 59 "java/lang/IllegalArgumentException", Cond.initialized "java/lang/IllegalArgumentException", Cond.classLink RX11 146 "java/lang/UnsupportedOperationException", Cond.initialized "java/lang/UnsupportedOperationException", Cond.classLink RX11 84 "java/lang/IndexOutOfBoundsException", Cond.initialized "java/lang/IndexOutOfBoundsException", Cond.fieldLink RX11 26 "RoomForms" "formNumber" "I", Cond.fieldLink RX11 22 "RoomForms" "form" "LRoomForms$Form;", Cond.methodLink RX11 77 yX11_needRoom, Cond.instanceMethod yX11_needRoom, Cond.selects RX11 yX11_needRoom yX11_needRoom, Cond.initialized RX11, Cond.code yX11_needRoom cX11_needRoom 1 none, Cond.classLink RX11 204 "java/lang/IllegalStateException", Cond.initialized "java/lang/IllegalStateException", Cond.methodLink RX11 151 ⟨"RoomForms$Form", "placeInList", "(II)I"⟩, Cond.sameMethod "RoomForms$Form" "RoomForms$Form" "placeInList" "(II)I", Cond.selects RX0 ⟨"RoomForms$Form", "placeInList", "(II)I"⟩ yX1_placeInList, Cond.instanceMethod yX1_placeInList, Cond.initialized RX1, Cond.code yX1_placeInList cX1_placeInList 3 (some .int), Cond.selects RX2 ⟨"RoomForms$Form", "placeInList", "(II)I"⟩ yX1_placeInList, Cond.selects RX3 ⟨"RoomForms$Form", "placeInList", "(II)I"⟩ yX1_placeInList, Cond.instanceMethod ⟨"RoomForms$Form", "placeInList", "(II)I"⟩]
def wsX11_list_r2 : List Cond := [Cond.selects RX4 ⟨"RoomForms$Form", "placeInList", "(II)I"⟩ yX4_placeInList, Cond.instanceMethod yX4_placeInList, Cond.initialized RX4, Cond.code yX4_placeInList cX4_placeInList 5 (some .int), Cond.fieldLink RX4 14 "RoomForms$Levels" "runs" "LRoomForms$Stretches;", Cond.methodLink RX4 57 yX10_size, Cond.instanceMethod yX10_size, Cond.selects RX10 yX10_size yX10_size, Cond.initialized RX10, Cond.code yX10_size cX10_size 1 (some .int), Cond.fieldLink RX10 9 "RoomForms$Stretches" "size" "I", Cond.methodLink RX4 51 yX10_wordsOf, Cond.instanceMethod yX10_wordsOf, Cond.selects RX10 yX10_wordsOf yX10_wordsOf, Cond.code yX10_wordsOf cX10_wordsOf 2 (some .int), Cond.fieldLink RX10 28 "RoomForms$Stretches" "words" "[I", Cond.methodLink RX4 42 yX4_listOf, Cond.static yX4_listOf, Cond.code yX4_listOf cX4_listOf 4 (some .int), Cond.methodLink RX4 48 yX10_placeOf, Cond.instanceMethod yX10_placeOf, Cond.selects RX10 yX10_placeOf yX10_placeOf, Cond.code yX10_placeOf cX10_placeOf 2 (some .int), Cond.fieldLink RX10 24 "RoomForms$Stretches" "places" "[I"]
def wsX11_list_r3 : List Cond := [Cond.selects RX5 ⟨"RoomForms$Form", "placeInList", "(II)I"⟩ yX1_placeInList, Cond.selects RX6 ⟨"RoomForms$Form", "placeInList", "(II)I"⟩ yX1_placeInList, Cond.selects RX9 ⟨"RoomForms$Form", "placeInList", "(II)I"⟩ yX1_placeInList]
def wsX11_list : List Cond := .code yX11_list cX11_list 4 (some .int) :: ((wsX11_list_r1 ++ (wsX11_list_r2 ++ wsX11_list_r3)) ++ wsX110 ++ wsX40 ++ wsX100 ++ (vx_atS RX11 63 "java/lang/IllegalArgumentException" ["java/lang/RuntimeException", "java/lang/Exception"]).filter goodWord ++ (vx_atS RX11 150 "java/lang/UnsupportedOperationException" ["java/lang/RuntimeException", "java/lang/Exception"]).filter goodWord ++ (vx_atS RX11 88 "java/lang/IndexOutOfBoundsException" ["java/lang/RuntimeException", "java/lang/Exception"]).filter goodWord ++ (vx_atS RX11 208 "java/lang/IllegalStateException" ["java/lang/RuntimeException", "java/lang/Exception"]).filter goodWord)
def wsX11_worst_r1 : List Cond := [Cond.classLink RX11 59 "java/lang/IllegalArgumentException", Cond.initialized "java/lang/IllegalArgumentException", Cond.fieldLink RX11 30 "RoomForms" "search" "LRoomForms$Search;", Cond.classLink RX11 163 RX8, Cond.instantiable RX8 9, Cond.initialized RX8, Cond.instanceMethod yX8_init, Cond.code yX8_init cX8_init 1 none, Cond.methodLink RX8 5 objectInit, Cond.instanceMethod objectInit, Cond.code objectInit ⟨#[0xb1]⟩ 1 none, Cond.arrayClass .int, Cond.fieldLink RX8 11 "RoomForms$Search" "rooms" "[I", Cond.constant RX8 15 (32768), Cond.fieldLink RX8 16 "RoomForms$Search" "slots" "[I", Cond.classLink RX8 19 RX10, Cond.instantiable RX10 4, Cond.initialized RX10, Cond.fieldLink RX8 24 "RoomForms$Search" "runs" "LRoomForms$Stretches;", Cond.fieldLink RX8 28 "RoomForms$Search" "base" "I", Cond.fieldLink RX8 32 "RoomForms$Search" "met" "I", Cond.fieldLink RX8 35 "RoomForms$Search" "form" "I", Cond.fieldLink RX8 38 "RoomForms$Search" "most" "I", Cond.fieldLink RX8 41 "RoomForms$Search" "live" "I"]
def wsX11_worst_r2 : List Cond := [Cond.fieldLink RX8 44 "RoomForms$Search" "words" "I", Cond.methodLink RX8 21 yX10_init, Cond.instanceMethod yX10_init, Cond.code yX10_init cX10_init 3 none, Cond.methodLink RX10 3 objectInit, Cond.fieldLink RX10 9 "RoomForms$Stretches" "size" "I", Cond.fieldLink RX10 15 "RoomForms$Stretches" "looked" "I", Cond.methodLink RX10 18 Lib.Math.max.name, Cond.static Lib.Math.max.name, Cond.initialized "java/lang/Math", Cond.code Lib.Math.max.name Lib.Math.max.code 2 (some .int), Cond.fieldLink RX10 24 "RoomForms$Stretches" "places" "[I", Cond.fieldLink RX10 28 "RoomForms$Stretches" "words" "[I", Cond.methodLink RX11 166 yX8_leastWords, Cond.instanceMethod yX8_leastWords, Cond.selects RX8 yX8_leastWords yX8_leastWords, Cond.code yX8_leastWords cX8_leastWords 6 (some .int), Cond.methodLink RX8 47 yX8_lookAtAll, Cond.instanceMethod yX8_lookAtAll, Cond.selects RX8 yX8_lookAtAll yX8_lookAtAll, Cond.code yX8_lookAtAll cX8_lookAtAll 3 (some .int), Cond.methodLink RX8 51 yX8_meet, Cond.instanceMethod yX8_meet, Cond.selects RX8 yX8_meet yX8_meet]
def wsX11_worst_r3 : List Cond := [Cond.code yX8_meet cX8_meet 8 (some .boolean), Cond.constant RX8 93 (-1640531535), Cond.methodLink RX8 94 yX8_addRoom, Cond.instanceMethod yX8_addRoom, Cond.selects RX8 yX8_addRoom yX8_addRoom, Cond.code yX8_addRoom cX8_addRoom 3 (some .boolean), Cond.methodLink RX8 55 yX8_lookAt, Cond.instanceMethod yX8_lookAt, Cond.selects RX8 yX8_lookAt yX8_lookAt, Cond.code yX8_lookAt cX8_lookAt 6 (some .int), Cond.methodLink RX8 59 yX8_askAll, Cond.instanceMethod yX8_askAll, Cond.selects RX8 yX8_askAll yX8_askAll, Cond.code yX8_askAll cX8_askAll 9 (some .int), Cond.methodLink RX8 74 Lib.Math.min.name, Cond.static Lib.Math.min.name, Cond.code Lib.Math.min.name Lib.Math.min.code 2 (some .int), Cond.methodLink RX8 66 yX8_listRuns, Cond.instanceMethod yX8_listRuns, Cond.selects RX8 yX8_listRuns yX8_listRuns, Cond.code yX8_listRuns cX8_listRuns 4 none, Cond.methodLink RX8 86 yX10_clear, Cond.instanceMethod yX10_clear, Cond.selects RX10 yX10_clear yX10_clear]
def wsX11_worst_r4 : List Cond := [Cond.code yX10_clear cX10_clear 1 none, Cond.methodLink RX8 89 yX10_add, Cond.instanceMethod yX10_add, Cond.selects RX10 yX10_add yX10_add, Cond.code yX10_add cX10_add 3 none, Cond.methodLink RX8 69 yJ6_bitCount_0f7a4, Cond.static yJ6_bitCount_0f7a4, Cond.initialized RJ6, Cond.code yJ6_bitCount_0f7a4 cJ6_bitCount_0f7a4 1 (some .int), Cond.constant RJ6 265 (1431655765), Cond.constant RJ6 266 (858993459), Cond.constant RJ6 267 (252645135), Cond.methodLink RX8 80 yX10_find, Cond.instanceMethod yX10_find, Cond.selects RX10 yX10_find yX10_find, Cond.code yX10_find cX10_find 4 (some .int), Cond.methodLink RX10 37 yX10_nextFit, Cond.instanceMethod yX10_nextFit, Cond.selects RX10 yX10_nextFit yX10_nextFit, Cond.code yX10_nextFit cX10_nextFit 6 (some .int), Cond.methodLink RX10 40 yX10_bestFit, Cond.instanceMethod yX10_bestFit, Cond.selects RX10 yX10_bestFit yX10_bestFit, Cond.code yX10_bestFit cX10_bestFit 4 (some .int)]
def wsX11_worst_r5 : List Cond := [Cond.methodLink RX10 50 yX10_placeOf, Cond.instanceMethod yX10_placeOf, Cond.selects RX10 yX10_placeOf yX10_placeOf, Cond.code yX10_placeOf cX10_placeOf 2 (some .int), Cond.methodLink RX10 44 yX10_greatestFit, Cond.instanceMethod yX10_greatestFit, Cond.selects RX10 yX10_greatestFit yX10_greatestFit, Cond.code yX10_greatestFit cX10_greatestFit 4 (some .int), Cond.methodLink RX10 47 yX10_firstFit, Cond.instanceMethod yX10_firstFit, Cond.selects RX10 yX10_firstFit yX10_firstFit, Cond.code yX10_firstFit cX10_firstFit 3 (some .int), Cond.methodLink RX8 63 yX8_giveAllBack, Cond.instanceMethod yX8_giveAllBack, Cond.selects RX8 yX8_giveAllBack yX8_giveAllBack, Cond.code yX8_giveAllBack cX8_giveAllBack 6 (some .int), Cond.methodLink RX8 83 yX8_blockFrom, Cond.instanceMethod yX8_blockFrom, Cond.selects RX8 yX8_blockFrom yX8_blockFrom, Cond.code yX8_blockFrom cX8_blockFrom 7 (some .int)]
def wsX11_worst : List Cond := .code yX11_worst cX11_worst 4 (some .int) :: ((wsX11_worst_r1 ++ (wsX11_worst_r2 ++ (wsX11_worst_r3 ++ (wsX11_worst_r4 ++ wsX11_worst_r5)))) ++ wsX110 ++ wsX80 ++ wsX100 ++ (vx_atS RX11 63 "java/lang/IllegalArgumentException" ["java/lang/RuntimeException", "java/lang/Exception"]).filter goodWord)
def wsX11_countInRoom_r1 : List Cond := [Cond.fieldLink RX11 10 "RoomForms" "room" "LRoomForms$Room;", Cond.methodLink RX11 119 yX7_words, Cond.instanceMethod yX7_words, Cond.selects RX7 yX7_words yX7_words, Cond.initialized RX7, Cond.code yX7_words cX7_words 1 (some .int), Cond.fieldLink RX7 36 "RoomForms$Room" "words" "I", Cond.methodLink RX11 80 yX7_blocks, Cond.instanceMethod yX7_blocks, Cond.selects RX7 yX7_blocks yX7_blocks, Cond.code yX7_blocks cX7_blocks 1 (some .int), Cond.fieldLink RX7 40 "RoomForms$Room" "blocks" "I", Cond.methodLink RX11 180 yX7_given, Cond.instanceMethod yX7_given, Cond.selects RX7 yX7_given yX7_given, Cond.code yX7_given cX7_given 1 (some .int), Cond.fieldLink RX7 43 "RoomForms$Room" "given" "I", Cond.methodLink RX11 183 yX7_askedTogether, Cond.instanceMethod yX7_askedTogether, Cond.selects RX7 yX7_askedTogether yX7_askedTogether, Cond.code yX7_askedTogether cX7_askedTogether 3 (some .int), Cond.fieldLink RX7 24 "RoomForms$Room" "asked" "[I", Cond.methodLink RX11 186 yX7_spansTogether, Cond.instanceMethod yX7_spansTogether]
def wsX11_countInRoom_r2 : List Cond := [Cond.selects RX7 yX7_spansTogether yX7_spansTogether, Cond.code yX7_spansTogether cX7_spansTogether 3 (some .int), Cond.fieldLink RX7 21 "RoomForms$Room" "spans" "[I", Cond.methodLink RX11 129 yX7_listRuns, Cond.instanceMethod yX7_listRuns, Cond.selects RX7 yX7_listRuns yX7_listRuns, Cond.code yX7_listRuns cX7_listRuns 3 (some (.object "RoomForms$Stretches")), Cond.fieldLink RX7 32 "RoomForms$Room" "runs" "LRoomForms$Stretches;", Cond.methodLink RX7 68 yX10_clear, Cond.instanceMethod yX10_clear, Cond.selects RX10 yX10_clear yX10_clear, Cond.initialized RX10, Cond.code yX10_clear cX10_clear 1 none, Cond.fieldLink RX10 9 "RoomForms$Stretches" "size" "I", Cond.methodLink RX7 71 yX7_isFree, Cond.instanceMethod yX7_isFree, Cond.selects RX7 yX7_isFree yX7_isFree, Cond.code yX7_isFree cX7_isFree 2 (some .boolean), Cond.fieldLink RX7 9 "RoomForms$Room" "owners" "[I", Cond.methodLink RX7 75 yX10_add, Cond.instanceMethod yX10_add, Cond.selects RX10 yX10_add yX10_add, Cond.code yX10_add cX10_add 3 none, Cond.fieldLink RX10 24 "RoomForms$Stretches" "places" "[I"]
def wsX11_countInRoom_r3 : List Cond := [Cond.fieldLink RX10 28 "RoomForms$Stretches" "words" "[I", Cond.methodLink RX11 133 yX10_size, Cond.instanceMethod yX10_size, Cond.selects RX10 yX10_size yX10_size, Cond.code yX10_size cX10_size 1 (some .int), Cond.methodLink RX11 189 yX10_mostWords, Cond.instanceMethod yX10_mostWords, Cond.selects RX10 yX10_mostWords yX10_mostWords, Cond.code yX10_mostWords cX10_mostWords 3 (some .int), Cond.methodLink RX10 18 Lib.Math.max.name, Cond.static Lib.Math.max.name, Cond.initialized "java/lang/Math", Cond.code Lib.Math.max.name Lib.Math.max.code 2 (some .int), Cond.methodLink RX11 192 yX7_looked, Cond.instanceMethod yX7_looked, Cond.selects RX7 yX7_looked yX7_looked, Cond.code yX7_looked cX7_looked 1 (some .int), Cond.fieldLink RX7 46 "RoomForms$Room" "looked" "I"]
def wsX11_countInRoom : List Cond := .code yX11_countInRoom cX11_countInRoom 2 (some .int) :: ((wsX11_countInRoom_r1 ++ (wsX11_countInRoom_r2 ++ wsX11_countInRoom_r3)) ++ wsX110 ++ wsX70 ++ wsX100)
def wsX11_countInForm_r1 : List Cond := [Cond.fieldLink RX11 22 "RoomForms" "form" "LRoomForms$Form;", Cond.methodLink RX11 195 ⟨"RoomForms$Form", "quickOnes", "()I"⟩, Cond.sameMethod "RoomForms$Form" "RoomForms$Form" "quickOnes" "()I", Cond.selects RX0 ⟨"RoomForms$Form", "quickOnes", "()I"⟩ yX1_quickOnes, Cond.instanceMethod yX1_quickOnes, Cond.initialized RX1, Cond.code yX1_quickOnes cX1_quickOnes 1 (some .int), Cond.selects RX2 ⟨"RoomForms$Form", "quickOnes", "()I"⟩ yX1_quickOnes, Cond.selects RX3 ⟨"RoomForms$Form", "quickOnes", "()I"⟩ yX1_quickOnes, Cond.selects RX4 ⟨"RoomForms$Form", "quickOnes", "()I"⟩ yX1_quickOnes, Cond.selects RX5 ⟨"RoomForms$Form", "quickOnes", "()I"⟩ yX1_quickOnes, Cond.instanceMethod ⟨"RoomForms$Form", "quickOnes", "()I"⟩, Cond.selects RX6 ⟨"RoomForms$Form", "quickOnes", "()I"⟩ yX6_quickOnes, Cond.instanceMethod yX6_quickOnes, Cond.initialized RX6, Cond.code yX6_quickOnes cX6_quickOnes 1 (some .int), Cond.fieldLink RX6 14 "RoomForms$Quick" "quick" "LRoomForms$Stretches;", Cond.methodLink RX6 34 yX10_size, Cond.instanceMethod yX10_size, Cond.selects RX10 yX10_size yX10_size, Cond.initialized RX10, Cond.code yX10_size cX10_size 1 (some .int), Cond.fieldLink RX10 9 "RoomForms$Stretches" "size" "I", Cond.selects RX9 ⟨"RoomForms$Form", "quickOnes", "()I"⟩ yX1_quickOnes]
def wsX11_countInForm_r2 : List Cond := [Cond.methodLink RX11 198 ⟨"RoomForms$Form", "freeParts", "()I"⟩, Cond.sameMethod "RoomForms$Form" "RoomForms$Form" "freeParts" "()I", Cond.selects RX0 ⟨"RoomForms$Form", "freeParts", "()I"⟩ yX1_freeParts, Cond.instanceMethod yX1_freeParts, Cond.code yX1_freeParts cX1_freeParts 1 (some .int), Cond.selects RX2 ⟨"RoomForms$Form", "freeParts", "()I"⟩ yX1_freeParts, Cond.instanceMethod ⟨"RoomForms$Form", "freeParts", "()I"⟩, Cond.selects RX3 ⟨"RoomForms$Form", "freeParts", "()I"⟩ yX3_freeParts, Cond.instanceMethod yX3_freeParts, Cond.initialized RX3, Cond.code yX3_freeParts cX3_freeParts 3 (some .int), Cond.fieldLink RX3 15 "RoomForms$Halves" "whole" "I", Cond.fieldLink RX3 9 "RoomForms$Halves" "pieces" "[I", Cond.selects RX4 ⟨"RoomForms$Form", "freeParts", "()I"⟩ yX1_freeParts, Cond.selects RX5 ⟨"RoomForms$Form", "freeParts", "()I"⟩ yX5_freeParts, Cond.instanceMethod yX5_freeParts, Cond.initialized RX5, Cond.code yX5_freeParts cX5_freeParts 3 (some .int), Cond.fieldLink RX5 18 "RoomForms$Pages" "pages" "I", Cond.fieldLink RX5 11 "RoomForms$Pages" "spans" "[I", Cond.selects RX6 ⟨"RoomForms$Form", "freeParts", "()I"⟩ yX1_freeParts, Cond.selects RX9 ⟨"RoomForms$Form", "freeParts", "()I"⟩ yX1_freeParts, Cond.methodLink RX11 201 ⟨"RoomForms$Form", "top", "()I"⟩, Cond.sameMethod "RoomForms$Form" "RoomForms$Form" "top" "()I"]
def wsX11_countInForm_r3 : List Cond := [Cond.selects RX0 ⟨"RoomForms$Form", "top", "()I"⟩ yX1_top, Cond.instanceMethod yX1_top, Cond.code yX1_top cX1_top 1 (some .int), Cond.selects RX2 ⟨"RoomForms$Form", "top", "()I"⟩ yX1_top, Cond.selects RX3 ⟨"RoomForms$Form", "top", "()I"⟩ yX1_top, Cond.selects RX4 ⟨"RoomForms$Form", "top", "()I"⟩ yX1_top, Cond.selects RX5 ⟨"RoomForms$Form", "top", "()I"⟩ yX1_top, Cond.selects RX6 ⟨"RoomForms$Form", "top", "()I"⟩ yX1_top, Cond.instanceMethod ⟨"RoomForms$Form", "top", "()I"⟩, Cond.selects RX9 ⟨"RoomForms$Form", "top", "()I"⟩ yX9_top, Cond.instanceMethod yX9_top, Cond.initialized RX9, Cond.code yX9_top cX9_top 1 (some .int), Cond.fieldLink RX9 9 "RoomForms$Stack" "top" "I"]
def wsX11_countInForm : List Cond := .code yX11_countInForm cX11_countInForm 2 (some .int) :: ((wsX11_countInForm_r1 ++ (wsX11_countInForm_r2 ++ wsX11_countInForm_r3)) ++ wsX110 ++ wsX60 ++ wsX100 ++ wsX30 ++ wsX50 ++ wsX90)
def wsX11_count_r1 : List Cond := [Cond.classLink RX11 59 "java/lang/IllegalArgumentException", Cond.initialized "java/lang/IllegalArgumentException", Cond.fieldLink RX11 26 "RoomForms" "formNumber" "I", Cond.fieldLink RX11 30 "RoomForms" "search" "LRoomForms$Search;", Cond.fieldLink RX11 22 "RoomForms" "form" "LRoomForms$Form;", Cond.methodLink RX11 171 yX8_met, Cond.instanceMethod yX8_met, Cond.selects RX8 yX8_met yX8_met, Cond.initialized RX8, Cond.code yX8_met cX8_met 1 (some .int), Cond.fieldLink RX8 32 "RoomForms$Search" "met" "I", Cond.methodLink RX11 174 yX11_countInRoom, Cond.instanceMethod yX11_countInRoom, Cond.selects RX11 yX11_countInRoom yX11_countInRoom, Cond.initialized RX11, Cond.code yX11_countInRoom cX11_countInRoom 2 (some .int), Cond.fieldLink RX11 10 "RoomForms" "room" "LRoomForms$Room;", Cond.methodLink RX11 119 yX7_words, Cond.instanceMethod yX7_words, Cond.selects RX7 yX7_words yX7_words, Cond.initialized RX7, Cond.code yX7_words cX7_words 1 (some .int), Cond.fieldLink RX7 36 "RoomForms$Room" "words" "I", Cond.methodLink RX11 80 yX7_blocks]
def wsX11_count_r2 : List Cond := [Cond.instanceMethod yX7_blocks, Cond.selects RX7 yX7_blocks yX7_blocks, Cond.code yX7_blocks cX7_blocks 1 (some .int), Cond.fieldLink RX7 40 "RoomForms$Room" "blocks" "I", Cond.methodLink RX11 180 yX7_given, Cond.instanceMethod yX7_given, Cond.selects RX7 yX7_given yX7_given, Cond.code yX7_given cX7_given 1 (some .int), Cond.fieldLink RX7 43 "RoomForms$Room" "given" "I", Cond.methodLink RX11 183 yX7_askedTogether, Cond.instanceMethod yX7_askedTogether, Cond.selects RX7 yX7_askedTogether yX7_askedTogether, Cond.code yX7_askedTogether cX7_askedTogether 3 (some .int), Cond.fieldLink RX7 24 "RoomForms$Room" "asked" "[I", Cond.methodLink RX11 186 yX7_spansTogether, Cond.instanceMethod yX7_spansTogether, Cond.selects RX7 yX7_spansTogether yX7_spansTogether, Cond.code yX7_spansTogether cX7_spansTogether 3 (some .int), Cond.fieldLink RX7 21 "RoomForms$Room" "spans" "[I", Cond.methodLink RX11 129 yX7_listRuns, Cond.instanceMethod yX7_listRuns, Cond.selects RX7 yX7_listRuns yX7_listRuns, Cond.code yX7_listRuns cX7_listRuns 3 (some (.object "RoomForms$Stretches")), Cond.fieldLink RX7 32 "RoomForms$Room" "runs" "LRoomForms$Stretches;"]
def wsX11_count_r3 : List Cond := [Cond.methodLink RX7 68 yX10_clear, Cond.instanceMethod yX10_clear, Cond.selects RX10 yX10_clear yX10_clear, Cond.initialized RX10, Cond.code yX10_clear cX10_clear 1 none, Cond.fieldLink RX10 9 "RoomForms$Stretches" "size" "I", Cond.methodLink RX7 71 yX7_isFree, Cond.instanceMethod yX7_isFree, Cond.selects RX7 yX7_isFree yX7_isFree, Cond.code yX7_isFree cX7_isFree 2 (some .boolean), Cond.fieldLink RX7 9 "RoomForms$Room" "owners" "[I", Cond.methodLink RX7 75 yX10_add, Cond.instanceMethod yX10_add, Cond.selects RX10 yX10_add yX10_add, Cond.code yX10_add cX10_add 3 none, Cond.fieldLink RX10 24 "RoomForms$Stretches" "places" "[I", Cond.fieldLink RX10 28 "RoomForms$Stretches" "words" "[I", Cond.methodLink RX11 133 yX10_size, Cond.instanceMethod yX10_size, Cond.selects RX10 yX10_size yX10_size, Cond.code yX10_size cX10_size 1 (some .int), Cond.methodLink RX11 189 yX10_mostWords, Cond.instanceMethod yX10_mostWords, Cond.selects RX10 yX10_mostWords yX10_mostWords]
def wsX11_count_r4 : List Cond := [Cond.code yX10_mostWords cX10_mostWords 3 (some .int), Cond.methodLink RX10 18 Lib.Math.max.name, Cond.static Lib.Math.max.name, Cond.initialized "java/lang/Math", Cond.code Lib.Math.max.name Lib.Math.max.code 2 (some .int), Cond.methodLink RX11 192 yX7_looked, Cond.instanceMethod yX7_looked, Cond.selects RX7 yX7_looked yX7_looked, Cond.code yX7_looked cX7_looked 1 (some .int), Cond.fieldLink RX7 46 "RoomForms$Room" "looked" "I", Cond.methodLink RX11 177 yX11_countInForm, Cond.instanceMethod yX11_countInForm, Cond.selects RX11 yX11_countInForm yX11_countInForm, Cond.code yX11_countInForm cX11_countInForm 2 (some .int), Cond.methodLink RX11 195 ⟨"RoomForms$Form", "quickOnes", "()I"⟩, Cond.sameMethod "RoomForms$Form" "RoomForms$Form" "quickOnes" "()I", Cond.selects RX0 ⟨"RoomForms$Form", "quickOnes", "()I"⟩ yX1_quickOnes, Cond.instanceMethod yX1_quickOnes, Cond.initialized RX1, Cond.code yX1_quickOnes cX1_quickOnes 1 (some .int), Cond.selects RX2 ⟨"RoomForms$Form", "quickOnes", "()I"⟩ yX1_quickOnes, Cond.selects RX3 ⟨"RoomForms$Form", "quickOnes", "()I"⟩ yX1_quickOnes, Cond.selects RX4 ⟨"RoomForms$Form", "quickOnes", "()I"⟩ yX1_quickOnes, Cond.selects RX5 ⟨"RoomForms$Form", "quickOnes", "()I"⟩ yX1_quickOnes]
def wsX11_count_r5 : List Cond := [Cond.instanceMethod ⟨"RoomForms$Form", "quickOnes", "()I"⟩, Cond.selects RX6 ⟨"RoomForms$Form", "quickOnes", "()I"⟩ yX6_quickOnes, Cond.instanceMethod yX6_quickOnes, Cond.initialized RX6, Cond.code yX6_quickOnes cX6_quickOnes 1 (some .int), Cond.fieldLink RX6 14 "RoomForms$Quick" "quick" "LRoomForms$Stretches;", Cond.methodLink RX6 34 yX10_size, Cond.selects RX9 ⟨"RoomForms$Form", "quickOnes", "()I"⟩ yX1_quickOnes, Cond.methodLink RX11 198 ⟨"RoomForms$Form", "freeParts", "()I"⟩, Cond.sameMethod "RoomForms$Form" "RoomForms$Form" "freeParts" "()I", Cond.selects RX0 ⟨"RoomForms$Form", "freeParts", "()I"⟩ yX1_freeParts, Cond.instanceMethod yX1_freeParts, Cond.code yX1_freeParts cX1_freeParts 1 (some .int), Cond.selects RX2 ⟨"RoomForms$Form", "freeParts", "()I"⟩ yX1_freeParts, Cond.instanceMethod ⟨"RoomForms$Form", "freeParts", "()I"⟩, Cond.selects RX3 ⟨"RoomForms$Form", "freeParts", "()I"⟩ yX3_freeParts, Cond.instanceMethod yX3_freeParts, Cond.initialized RX3, Cond.code yX3_freeParts cX3_freeParts 3 (some .int), Cond.fieldLink RX3 15 "RoomForms$Halves" "whole" "I", Cond.fieldLink RX3 9 "RoomForms$Halves" "pieces" "[I", Cond.selects RX4 ⟨"RoomForms$Form", "freeParts", "()I"⟩ yX1_freeParts, Cond.selects RX5 ⟨"RoomForms$Form", "freeParts", "()I"⟩ yX5_freeParts, Cond.instanceMethod yX5_freeParts]
def wsX11_count_r6 : List Cond := [Cond.initialized RX5, Cond.code yX5_freeParts cX5_freeParts 3 (some .int), Cond.fieldLink RX5 18 "RoomForms$Pages" "pages" "I", Cond.fieldLink RX5 11 "RoomForms$Pages" "spans" "[I", Cond.selects RX6 ⟨"RoomForms$Form", "freeParts", "()I"⟩ yX1_freeParts, Cond.selects RX9 ⟨"RoomForms$Form", "freeParts", "()I"⟩ yX1_freeParts, Cond.methodLink RX11 201 ⟨"RoomForms$Form", "top", "()I"⟩, Cond.sameMethod "RoomForms$Form" "RoomForms$Form" "top" "()I", Cond.selects RX0 ⟨"RoomForms$Form", "top", "()I"⟩ yX1_top, Cond.instanceMethod yX1_top, Cond.code yX1_top cX1_top 1 (some .int), Cond.selects RX2 ⟨"RoomForms$Form", "top", "()I"⟩ yX1_top, Cond.selects RX3 ⟨"RoomForms$Form", "top", "()I"⟩ yX1_top, Cond.selects RX4 ⟨"RoomForms$Form", "top", "()I"⟩ yX1_top, Cond.selects RX5 ⟨"RoomForms$Form", "top", "()I"⟩ yX1_top, Cond.selects RX6 ⟨"RoomForms$Form", "top", "()I"⟩ yX1_top, Cond.instanceMethod ⟨"RoomForms$Form", "top", "()I"⟩, Cond.selects RX9 ⟨"RoomForms$Form", "top", "()I"⟩ yX9_top, Cond.instanceMethod yX9_top, Cond.initialized RX9, Cond.code yX9_top cX9_top 1 (some .int), Cond.fieldLink RX9 9 "RoomForms$Stack" "top" "I"]
def wsX11_count : List Cond := .code yX11_count cX11_count 2 (some .int) :: ((wsX11_count_r1 ++ (wsX11_count_r2 ++ (wsX11_count_r3 ++ (wsX11_count_r4 ++ (wsX11_count_r5 ++ wsX11_count_r6))))) ++ wsX110 ++ wsX80 ++ wsX70 ++ wsX100 ++ wsX60 ++ wsX30 ++ wsX50 ++ wsX90 ++ (vx_atS RX11 63 "java/lang/IllegalArgumentException" ["java/lang/RuntimeException", "java/lang/Exception"]).filter goodWord)
set_option maxRecDepth 20000 in
theorem ggX11_init_X7_init : GoodIn wsX11_init wsX7_init := goodIn_r _ [35, 36, 2, 3, 37, 38, 39, 40, 41, 42, 43, 44, 45, 46, 47, 48, 49, 50, 51, 52, 53, 54, 55, 56, 57, 58, 59, 60, 61, 62, 111, 112, 113, 114, 115, 116, 117, 118, 119, 120, 144, 145, 146, 147] (by decide +kernel) (by decide +kernel)
set_option maxRecDepth 20000 in
theorem gX11_init_X7_init_n9 : GoodIn wsX11_init (wsX7_init) := ggX11_init_X7_init
set_option maxRecDepth 20000 in
theorem ggX11_init_X0_init : GoodIn wsX11_init wsX0_init := goodIn_r _ [65, 66, 67, 68, 69, 70, 71, 72, 2, 3, 73, 126, 127, 128, 136, 137, 129, 130, 131, 138, 139, 132, 133, 134, 135, 142, 143, 140, 141] (by decide +kernel) (by decide +kernel)
set_option maxRecDepth 20000 in
theorem gX11_init_X0_init : GoodIn wsX11_init (wsX0_init) := ggX11_init_X0_init
set_option maxRecDepth 20000 in
theorem ggX11_init_X3_init : GoodIn wsX11_init wsX3_init := goodIn_r _ [76, 37, 77, 78, 79, 69, 70, 71, 72, 2, 3, 73, 129, 130, 131, 126, 127, 128, 136, 137, 138, 139, 132, 133, 134, 135, 142, 143, 140, 141] (by decide +kernel) (by decide +kernel)
set_option maxRecDepth 20000 in
theorem gX11_init_X3_init : GoodIn wsX11_init (wsX3_init) := ggX11_init_X3_init
set_option maxRecDepth 20000 in
theorem ggX11_init_X5_init : GoodIn wsX11_init wsX5_init := goodIn_r _ [82, 37, 83, 84, 85, 86, 69, 70, 71, 72, 2, 3, 73, 132, 133, 134, 135, 126, 127, 128, 136, 137, 129, 130, 131, 138, 139, 142, 143, 140, 141] (by decide +kernel) (by decide +kernel)
set_option maxRecDepth 20000 in
theorem gX11_init_X5_init : GoodIn wsX11_init (wsX5_init) := ggX11_init_X5_init
set_option maxRecDepth 20000 in
theorem ggX11_init_X2_init : GoodIn wsX11_init wsX2_init := goodIn_r _ [89, 90, 91, 69, 70, 71, 72, 2, 3, 73, 136, 137, 126, 127, 128, 129, 130, 131, 138, 139, 132, 133, 134, 135, 142, 143, 140, 141] (by decide +kernel) (by decide +kernel)
set_option maxRecDepth 20000 in
theorem gX11_init_X2_init : GoodIn wsX11_init (wsX2_init) := ggX11_init_X2_init
set_option maxRecDepth 20000 in
theorem ggX11_init_X4_init : GoodIn wsX11_init wsX4_init := goodIn_r _ [94, 95, 44, 45, 96, 97, 69, 70, 71, 72, 2, 3, 73, 98, 52, 53, 54, 55, 56, 57, 58, 59, 60, 37, 61, 62, 144, 145, 146, 147, 138, 139, 126, 127, 128, 136, 137, 129, 130, 131, 132, 133, 134, 135, 142, 143, 140, 141] (by decide +kernel) (by decide +kernel)
set_option maxRecDepth 20000 in
theorem gX11_init_X4_init : GoodIn wsX11_init (wsX4_init) := ggX11_init_X4_init
set_option maxRecDepth 20000 in
theorem ggX11_init_X9_init : GoodIn wsX11_init wsX9_init := goodIn_r _ [101, 102, 103, 69, 70, 71, 72, 2, 3, 73, 140, 141, 126, 127, 128, 136, 137, 129, 130, 131, 138, 139, 132, 133, 134, 135, 142, 143] (by decide +kernel) (by decide +kernel)
set_option maxRecDepth 20000 in
theorem gX11_init_X9_init : GoodIn wsX11_init (wsX9_init) := ggX11_init_X9_init
set_option maxRecDepth 20000 in
theorem ggX11_init_X6_init : GoodIn wsX11_init wsX6_init := goodIn_r _ [106, 107, 44, 45, 108, 109, 69, 70, 71, 72, 2, 3, 73, 110, 52, 53, 54, 55, 56, 57, 58, 59, 60, 37, 61, 62, 144, 145, 146, 147, 142, 143, 126, 127, 128, 136, 137, 129, 130, 131, 138, 139, 132, 133, 134, 135, 140, 141] (by decide +kernel) (by decide +kernel)
set_option maxRecDepth 20000 in
theorem gX11_init_X6_init : GoodIn wsX11_init (wsX6_init) := ggX11_init_X6_init
theorem dX11_init_0 : decode cX11_init 0 = .ok (.aload_n 0, 1) := by decide +kernel
theorem dX11_init_1 : decode cX11_init 1 = .ok (.invokespecial 1, 3) := by decide +kernel
theorem dX11_init_4 : decode cX11_init 4 = .ok (.aload_n 0, 1) := by decide +kernel
theorem dX11_init_5 : decode cX11_init 5 = .ok (.new 7, 3) := by decide +kernel
theorem dX11_init_8 : decode cX11_init 8 = .ok (.dup, 1) := by decide +kernel
theorem dX11_init_9 : decode cX11_init 9 = .ok (.invokespecial 9, 3) := by decide +kernel
theorem dX11_init_12 : decode cX11_init 12 = .ok (.putfield 10, 3) := by decide +kernel
theorem dX11_init_15 : decode cX11_init 15 = .ok (.aload_n 0, 1) := by decide +kernel
theorem dX11_init_16 : decode cX11_init 16 = .ok (.bipush 10, 2) := by decide +kernel
theorem dX11_init_18 : decode cX11_init 18 = .ok (.anewarray 16, 3) := by decide +kernel
theorem dX11_init_21 : decode cX11_init 21 = .ok (.putfield 18, 3) := by decide +kernel
theorem dX11_init_24 : decode cX11_init 24 = .ok (.aload_n 0, 1) := by decide +kernel
theorem dX11_init_25 : decode cX11_init 25 = .ok (.aconst_null, 1) := by decide +kernel
theorem dX11_init_26 : decode cX11_init 26 = .ok (.putfield 22, 3) := by decide +kernel
theorem dX11_init_29 : decode cX11_init 29 = .ok (.aload_n 0, 1) := by decide +kernel
theorem dX11_init_30 : decode cX11_init 30 = .ok (.iconst (-1), 1) := by decide +kernel
theorem dX11_init_31 : decode cX11_init 31 = .ok (.putfield 26, 3) := by decide +kernel
theorem dX11_init_34 : decode cX11_init 34 = .ok (.aload_n 0, 1) := by decide +kernel
theorem dX11_init_35 : decode cX11_init 35 = .ok (.aconst_null, 1) := by decide +kernel
theorem dX11_init_36 : decode cX11_init 36 = .ok (.putfield 30, 3) := by decide +kernel
theorem dX11_init_39 : decode cX11_init 39 = .ok (.iconst 0, 1) := by decide +kernel
theorem dX11_init_40 : decode cX11_init 40 = .ok (.istore_n 1, 1) := by decide +kernel
theorem dX11_init_41 : decode cX11_init 41 = .ok (.iload_n 1, 1) := by decide +kernel
theorem dX11_init_42 : decode cX11_init 42 = .ok (.iconst 4, 1) := by decide +kernel
theorem dX11_init_43 : decode cX11_init 43 = .ok (.if_icmp .ge 27, 3) := by decide +kernel
theorem dX11_init_46 : decode cX11_init 46 = .ok (.aload_n 0, 1) := by decide +kernel
theorem dX11_init_47 : decode cX11_init 47 = .ok (.getfield 18, 3) := by decide +kernel
theorem dX11_init_50 : decode cX11_init 50 = .ok (.iload_n 1, 1) := by decide +kernel
theorem dX11_init_51 : decode cX11_init 51 = .ok (.new 34, 3) := by decide +kernel
theorem dX11_init_54 : decode cX11_init 54 = .ok (.dup, 1) := by decide +kernel
theorem dX11_init_55 : decode cX11_init 55 = .ok (.aload_n 0, 1) := by decide +kernel
theorem dX11_init_56 : decode cX11_init 56 = .ok (.getfield 10, 3) := by decide +kernel
theorem dX11_init_59 : decode cX11_init 59 = .ok (.iload_n 1, 1) := by decide +kernel
theorem dX11_init_60 : decode cX11_init 60 = .ok (.invokespecial 36, 3) := by decide +kernel
theorem dX11_init_63 : decode cX11_init 63 = .ok (.aastore, 1) := by decide +kernel
theorem dX11_init_64 : decode cX11_init 64 = .ok (.iinc 1 1, 3) := by decide +kernel
theorem dX11_init_67 : decode cX11_init 67 = .ok (.goto (-26), 3) := by decide +kernel
theorem dX11_init_70 : decode cX11_init 70 = .ok (.aload_n 0, 1) := by decide +kernel
theorem dX11_init_71 : decode cX11_init 71 = .ok (.getfield 18, 3) := by decide +kernel
theorem dX11_init_74 : decode cX11_init 74 = .ok (.iconst 4, 1) := by decide +kernel
theorem dX11_init_75 : decode cX11_init 75 = .ok (.new 39, 3) := by decide +kernel
theorem dX11_init_78 : decode cX11_init 78 = .ok (.dup, 1) := by decide +kernel
theorem dX11_init_79 : decode cX11_init 79 = .ok (.aload_n 0, 1) := by decide +kernel
theorem dX11_init_80 : decode cX11_init 80 = .ok (.getfield 10, 3) := by decide +kernel
theorem dX11_init_83 : decode cX11_init 83 = .ok (.invokespecial 41, 3) := by decide +kernel
theorem dX11_init_86 : decode cX11_init 86 = .ok (.aastore, 1) := by decide +kernel
theorem dX11_init_87 : decode cX11_init 87 = .ok (.aload_n 0, 1) := by decide +kernel
theorem dX11_init_88 : decode cX11_init 88 = .ok (.getfield 18, 3) := by decide +kernel
theorem dX11_init_91 : decode cX11_init 91 = .ok (.iconst 5, 1) := by decide +kernel
theorem dX11_init_92 : decode cX11_init 92 = .ok (.new 44, 3) := by decide +kernel
theorem dX11_init_95 : decode cX11_init 95 = .ok (.dup, 1) := by decide +kernel
theorem dX11_init_96 : decode cX11_init 96 = .ok (.aload_n 0, 1) := by decide +kernel
theorem dX11_init_97 : decode cX11_init 97 = .ok (.getfield 10, 3) := by decide +kernel
theorem dX11_init_100 : decode cX11_init 100 = .ok (.invokespecial 46, 3) := by decide +kernel
theorem dX11_init_103 : decode cX11_init 103 = .ok (.aastore, 1) := by decide +kernel
theorem dX11_init_104 : decode cX11_init 104 = .ok (.aload_n 0, 1) := by decide +kernel
theorem dX11_init_105 : decode cX11_init 105 = .ok (.getfield 18, 3) := by decide +kernel
theorem dX11_init_108 : decode cX11_init 108 = .ok (.bipush 6, 2) := by decide +kernel
theorem dX11_init_110 : decode cX11_init 110 = .ok (.new 47, 3) := by decide +kernel
theorem dX11_init_113 : decode cX11_init 113 = .ok (.dup, 1) := by decide +kernel
theorem dX11_init_114 : decode cX11_init 114 = .ok (.aload_n 0, 1) := by decide +kernel
theorem dX11_init_115 : decode cX11_init 115 = .ok (.getfield 10, 3) := by decide +kernel
theorem dX11_init_118 : decode cX11_init 118 = .ok (.invokespecial 49, 3) := by decide +kernel
theorem dX11_init_121 : decode cX11_init 121 = .ok (.aastore, 1) := by decide +kernel
theorem dX11_init_122 : decode cX11_init 122 = .ok (.aload_n 0, 1) := by decide +kernel
theorem dX11_init_123 : decode cX11_init 123 = .ok (.getfield 18, 3) := by decide +kernel
theorem dX11_init_126 : decode cX11_init 126 = .ok (.bipush 7, 2) := by decide +kernel
theorem dX11_init_128 : decode cX11_init 128 = .ok (.new 50, 3) := by decide +kernel
theorem dX11_init_131 : decode cX11_init 131 = .ok (.dup, 1) := by decide +kernel
theorem dX11_init_132 : decode cX11_init 132 = .ok (.aload_n 0, 1) := by decide +kernel
theorem dX11_init_133 : decode cX11_init 133 = .ok (.getfield 10, 3) := by decide +kernel
theorem dX11_init_136 : decode cX11_init 136 = .ok (.invokespecial 52, 3) := by decide +kernel
theorem dX11_init_139 : decode cX11_init 139 = .ok (.aastore, 1) := by decide +kernel
theorem dX11_init_140 : decode cX11_init 140 = .ok (.aload_n 0, 1) := by decide +kernel
theorem dX11_init_141 : decode cX11_init 141 = .ok (.getfield 18, 3) := by decide +kernel
theorem dX11_init_144 : decode cX11_init 144 = .ok (.bipush 8, 2) := by decide +kernel
theorem dX11_init_146 : decode cX11_init 146 = .ok (.new 53, 3) := by decide +kernel
theorem dX11_init_149 : decode cX11_init 149 = .ok (.dup, 1) := by decide +kernel
theorem dX11_init_150 : decode cX11_init 150 = .ok (.aload_n 0, 1) := by decide +kernel
theorem dX11_init_151 : decode cX11_init 151 = .ok (.getfield 10, 3) := by decide +kernel
theorem dX11_init_154 : decode cX11_init 154 = .ok (.invokespecial 55, 3) := by decide +kernel
theorem dX11_init_157 : decode cX11_init 157 = .ok (.aastore, 1) := by decide +kernel
theorem dX11_init_158 : decode cX11_init 158 = .ok (.aload_n 0, 1) := by decide +kernel
theorem dX11_init_159 : decode cX11_init 159 = .ok (.getfield 18, 3) := by decide +kernel
theorem dX11_init_162 : decode cX11_init 162 = .ok (.bipush 9, 2) := by decide +kernel
theorem dX11_init_164 : decode cX11_init 164 = .ok (.new 56, 3) := by decide +kernel
theorem dX11_init_167 : decode cX11_init 167 = .ok (.dup, 1) := by decide +kernel
theorem dX11_init_168 : decode cX11_init 168 = .ok (.aload_n 0, 1) := by decide +kernel
theorem dX11_init_169 : decode cX11_init 169 = .ok (.getfield 10, 3) := by decide +kernel
theorem dX11_init_172 : decode cX11_init 172 = .ok (.invokespecial 58, 3) := by decide +kernel
theorem dX11_init_175 : decode cX11_init 175 = .ok (.aastore, 1) := by decide +kernel
theorem dX11_init_176 : decode cX11_init 176 = .ok (.return_, 1) := by decide +kernel
set_option maxRecDepth 20000 in
theorem ggX11_open_X7_empty : GoodIn wsX11_open wsX7_empty := goodIn_r _ [11, 12, 13, 14, 15, 16, 17, 18, 19, 20, 21, 22, 23, 24, 25, 26, 27, 106, 107, 108, 109, 110, 111, 112, 113, 114, 115] (by decide +kernel) (by decide +kernel)
set_option maxRecDepth 20000 in
theorem gX11_open_X7_empty : GoodIn wsX11_open (wsV RX11 68 RX7 yX7_empty wsX7_empty) := goodIn_app (goodIn_of _ (by decide +kernel)) ggX11_open_X7_empty
set_option maxRecDepth 20000 in
theorem ggX11_open_X0_begin : GoodIn wsX11_open wsX0_begin := goodIn_r _ [33, 34, 116, 117, 118] (by decide +kernel) (by decide +kernel)
set_option maxRecDepth 20000 in
theorem gX11_open_X0_begin_u72X0 : GoodIn wsX11_open (va_wsU RX11 72 RX0 "RoomForms$Form" ⟨"RoomForms$Form", "begin", "()V"⟩ yX0_begin wsX0_begin) := goodIn_app (goodIn_of _ (by decide +kernel)) ggX11_open_X0_begin
set_option maxRecDepth 20000 in
theorem ggX11_open_X2_begin : GoodIn wsX11_open wsX2_begin := goodIn_r _ [38, 39, 40, 41, 42, 43, 44, 10, 45, 19, 116, 117, 118, 119, 120, 121, 122, 123, 124, 125, 126, 127, 128, 129, 130, 131, 132, 133, 106, 107, 108, 109, 110, 111, 112, 113, 114, 115] (by decide +kernel) (by decide +kernel)
set_option maxRecDepth 20000 in
theorem gX11_open_X2_begin_u72X2 : GoodIn wsX11_open (va_wsU RX11 72 RX2 "RoomForms$Form" ⟨"RoomForms$Form", "begin", "()V"⟩ yX2_begin wsX2_begin) := goodIn_app (goodIn_of _ (by decide +kernel)) ggX11_open_X2_begin
set_option maxRecDepth 20000 in
theorem ggX11_open_X3_begin : GoodIn wsX11_open wsX3_begin := goodIn_r _ [49, 50, 51, 52, 53, 54, 43, 44, 10, 45, 19, 55, 56, 57, 58, 25, 26, 27, 116, 117, 118, 119, 120, 121, 122, 123, 124, 125, 126, 127, 128, 129, 130, 131, 132, 133, 106, 107, 108, 109, 110, 111, 112, 113, 114, 115] (by decide +kernel) (by decide +kernel)
set_option maxRecDepth 20000 in
theorem gX11_open_X3_begin_u72X3 : GoodIn wsX11_open (va_wsU RX11 72 RX3 "RoomForms$Form" ⟨"RoomForms$Form", "begin", "()V"⟩ yX3_begin wsX3_begin) := goodIn_app (goodIn_of _ (by decide +kernel)) ggX11_open_X3_begin
set_option maxRecDepth 20000 in
theorem ggX11_open_X4_begin : GoodIn wsX11_open wsX4_begin := goodIn_r _ [62, 63, 64, 65, 66, 67, 68, 69, 70, 71, 72, 43, 44, 10, 45, 19, 73, 74, 75, 76, 77, 78, 124, 125, 116, 117, 118, 119, 120, 121, 122, 123, 126, 127, 128, 129, 130, 131, 132, 133, 134, 135, 136, 137, 106, 107, 108, 109, 110, 111, 112, 113, 114, 115] (by decide +kernel) (by decide +kernel)
set_option maxRecDepth 20000 in
theorem gX11_open_X4_begin_u72X4 : GoodIn wsX11_open (va_wsU RX11 72 RX4 "RoomForms$Form" ⟨"RoomForms$Form", "begin", "()V"⟩ yX4_begin wsX4_begin) := goodIn_app (goodIn_of _ (by decide +kernel)) ggX11_open_X4_begin
set_option maxRecDepth 20000 in
theorem ggX11_open_X5_begin : GoodIn wsX11_open wsX5_begin := goodIn_r _ [82, 83, 84, 85, 86, 87, 88, 43, 44, 10, 45, 19, 89, 25, 26, 27, 116, 117, 118, 119, 120, 121, 122, 123, 124, 125, 126, 127, 128, 129, 130, 131, 132, 133, 106, 107, 108, 109, 110, 111, 112, 113, 114, 115] (by decide +kernel) (by decide +kernel)
set_option maxRecDepth 20000 in
theorem gX11_open_X5_begin_u72X5 : GoodIn wsX11_open (va_wsU RX11 72 RX5 "RoomForms$Form" ⟨"RoomForms$Form", "begin", "()V"⟩ yX5_begin wsX5_begin) := goodIn_app (goodIn_of _ (by decide +kernel)) ggX11_open_X5_begin
set_option maxRecDepth 20000 in
theorem ggX11_open_X6_begin : GoodIn wsX11_open wsX6_begin := goodIn_r _ [93, 94, 95, 67, 68, 69, 70, 71, 130, 131, 134, 135, 136, 137] (by decide +kernel) (by decide +kernel)
set_option maxRecDepth 20000 in
theorem gX11_open_X6_begin_u72X6 : GoodIn wsX11_open (va_wsU RX11 72 RX6 "RoomForms$Form" ⟨"RoomForms$Form", "begin", "()V"⟩ yX6_begin wsX6_begin) := goodIn_app (goodIn_of _ (by decide +kernel)) ggX11_open_X6_begin
set_option maxRecDepth 20000 in
theorem ggX11_open_X9_begin : GoodIn wsX11_open wsX9_begin := goodIn_r _ [99, 100, 132, 133] (by decide +kernel) (by decide +kernel)
set_option maxRecDepth 20000 in
theorem gX11_open_X9_begin_u72X9 : GoodIn wsX11_open (va_wsU RX11 72 RX9 "RoomForms$Form" ⟨"RoomForms$Form", "begin", "()V"⟩ yX9_begin wsX9_begin) := goodIn_app (goodIn_of _ (by decide +kernel)) ggX11_open_X9_begin
theorem dX11_open_0 : decode cX11_open 0 = .ok (.iload_n 1, 1) := by decide +kernel
theorem dX11_open_1 : decode cX11_open 1 = .ok (.ifCond .lt 9, 3) := by decide +kernel
theorem dX11_open_4 : decode cX11_open 4 = .ok (.iload_n 1, 1) := by decide +kernel
theorem dX11_open_5 : decode cX11_open 5 = .ok (.bipush 10, 2) := by decide +kernel
theorem dX11_open_7 : decode cX11_open 7 = .ok (.if_icmp .lt 13, 3) := by decide +kernel
theorem dX11_open_10 : decode cX11_open 10 = .ok (.new 59, 3) := by decide +kernel
theorem dX11_open_13 : decode cX11_open 13 = .ok (.dup, 1) := by decide +kernel
theorem dX11_open_14 : decode cX11_open 14 = .ok (.ldc 61, 2) := by decide +kernel
theorem dX11_open_16 : decode cX11_open 16 = .ok (.invokespecial 63, 3) := by decide +kernel
theorem dX11_open_19 : decode cX11_open 19 = .ok (.athrow, 1) := by decide +kernel
theorem dX11_open_20 : decode cX11_open 20 = .ok (.iload_n 2, 1) := by decide +kernel
theorem dX11_open_21 : decode cX11_open 21 = .ok (.bipush 16, 2) := by decide +kernel
theorem dX11_open_23 : decode cX11_open 23 = .ok (.if_icmp .lt 10, 3) := by decide +kernel
theorem dX11_open_26 : decode cX11_open 26 = .ok (.iload_n 2, 1) := by decide +kernel
theorem dX11_open_27 : decode cX11_open 27 = .ok (.sipush 1024, 3) := by decide +kernel
theorem dX11_open_30 : decode cX11_open 30 = .ok (.if_icmp .le 13, 3) := by decide +kernel
theorem dX11_open_33 : decode cX11_open 33 = .ok (.new 59, 3) := by decide +kernel
theorem dX11_open_36 : decode cX11_open 36 = .ok (.dup, 1) := by decide +kernel
theorem dX11_open_37 : decode cX11_open 37 = .ok (.ldc 66, 2) := by decide +kernel
theorem dX11_open_39 : decode cX11_open 39 = .ok (.invokespecial 63, 3) := by decide +kernel
theorem dX11_open_42 : decode cX11_open 42 = .ok (.athrow, 1) := by decide +kernel
theorem dX11_open_43 : decode cX11_open 43 = .ok (.aload_n 0, 1) := by decide +kernel
theorem dX11_open_44 : decode cX11_open 44 = .ok (.getfield 10, 3) := by decide +kernel
theorem dX11_open_47 : decode cX11_open 47 = .ok (.iload_n 2, 1) := by decide +kernel
theorem dX11_open_48 : decode cX11_open 48 = .ok (.invokevirtual 68, 3) := by decide +kernel
theorem dX11_open_51 : decode cX11_open 51 = .ok (.aload_n 0, 1) := by decide +kernel
theorem dX11_open_52 : decode cX11_open 52 = .ok (.iload_n 1, 1) := by decide +kernel
theorem dX11_open_53 : decode cX11_open 53 = .ok (.putfield 26, 3) := by decide +kernel
theorem dX11_open_56 : decode cX11_open 56 = .ok (.aload_n 0, 1) := by decide +kernel
theorem dX11_open_57 : decode cX11_open 57 = .ok (.aload_n 0, 1) := by decide +kernel
theorem dX11_open_58 : decode cX11_open 58 = .ok (.getfield 18, 3) := by decide +kernel
theorem dX11_open_61 : decode cX11_open 61 = .ok (.iload_n 1, 1) := by decide +kernel
theorem dX11_open_62 : decode cX11_open 62 = .ok (.aaload, 1) := by decide +kernel
theorem dX11_open_63 : decode cX11_open 63 = .ok (.putfield 22, 3) := by decide +kernel
theorem dX11_open_66 : decode cX11_open 66 = .ok (.aload_n 0, 1) := by decide +kernel
theorem dX11_open_67 : decode cX11_open 67 = .ok (.getfield 22, 3) := by decide +kernel
theorem dX11_open_70 : decode cX11_open 70 = .ok (.invokevirtual 72, 3) := by decide +kernel
theorem dX11_open_73 : decode cX11_open 73 = .ok (.return_, 1) := by decide +kernel
set_option maxRecDepth 20000 in
theorem ggX11_give_X11_needRoom : GoodIn wsX11_give wsX11_needRoom := goodIn_ca (goodIn_r _ [11, 12, 13, 6, 269, 270, 271, 272, 273] (by decide +kernel) (by decide +kernel)) (goodIn_sub (fun _ h => List.mem_cons_of_mem _ (List.mem_append_right _ h)) (by decide +kernel))
set_option maxRecDepth 20000 in
theorem gX11_give_X11_needRoom : GoodIn wsX11_give (wsV RX11 77 RX11 yX11_needRoom wsX11_needRoom) := goodIn_app (goodIn_of _ (by decide +kernel)) ggX11_give_X11_needRoom
set_option maxRecDepth 20000 in
theorem ggX11_give_X7_blocks : GoodIn wsX11_give wsX7_blocks := goodIn_r _ [18, 19, 274, 275, 276, 277, 278, 279, 280, 281, 282, 283] (by decide +kernel) (by decide +kernel)
set_option maxRecDepth 20000 in
theorem gX11_give_X7_blocks : GoodIn wsX11_give (wsV RX11 80 RX7 yX7_blocks wsX7_blocks) := goodIn_app (goodIn_of _ (by decide +kernel)) ggX11_give_X7_blocks
set_option maxRecDepth 20000 in
theorem ggX11_give_X1_spanOf : GoodIn wsX11_give wsX1_spanOf := goodIn_r _ [25] (by decide +kernel) (by decide +kernel)
set_option maxRecDepth 20000 in
theorem gX11_give_X1_spanOf_u89X0 : GoodIn wsX11_give (va_wsU RX11 89 RX0 "RoomForms$Form" ⟨"RoomForms$Form", "spanOf", "(I)I"⟩ yX1_spanOf wsX1_spanOf) := goodIn_app (goodIn_of _ (by decide +kernel)) ggX11_give_X1_spanOf
set_option maxRecDepth 20000 in
theorem ggX11_give_X2_spanOf : GoodIn wsX11_give wsX2_spanOf := goodIn_r _ [30] (by decide +kernel) (by decide +kernel)
set_option maxRecDepth 20000 in
theorem gX11_give_X2_spanOf_u89X2 : GoodIn wsX11_give (va_wsO RX11 89 RX2 "RoomForms$Form" ⟨"RoomForms$Form", "spanOf", "(I)I"⟩ yX2_spanOf wsX2_spanOf) := goodIn_app (goodIn_of _ (by decide +kernel)) ggX11_give_X2_spanOf
set_option maxRecDepth 20000 in
theorem ggX11_give_X3_spanOf : GoodIn wsX11_give wsX3_spanOf := goodIn_r _ [34, 35, 10, 36] (by decide +kernel) (by decide +kernel)
set_option maxRecDepth 20000 in
theorem gX11_give_X3_spanOf_u89X3 : GoodIn wsX11_give (va_wsO RX11 89 RX3 "RoomForms$Form" ⟨"RoomForms$Form", "spanOf", "(I)I"⟩ yX3_spanOf wsX3_spanOf) := goodIn_app (goodIn_of _ (by decide +kernel)) ggX11_give_X3_spanOf
set_option maxRecDepth 20000 in
theorem gX11_give_X1_spanOf_u89X4 : GoodIn wsX11_give (va_wsU RX11 89 RX4 "RoomForms$Form" ⟨"RoomForms$Form", "spanOf", "(I)I"⟩ yX1_spanOf wsX1_spanOf) := goodIn_app (goodIn_of _ (by decide +kernel)) ggX11_give_X1_spanOf
set_option maxRecDepth 20000 in
theorem ggX11_give_X5_spanOf : GoodIn wsX11_give wsX5_spanOf := goodIn_r _ [41, 35, 10, 36] (by decide +kernel) (by decide +kernel)
set_option maxRecDepth 20000 in
theorem gX11_give_X5_spanOf_u89X5 : GoodIn wsX11_give (va_wsO RX11 89 RX5 "RoomForms$Form" ⟨"RoomForms$Form", "spanOf", "(I)I"⟩ yX5_spanOf wsX5_spanOf) := goodIn_app (goodIn_of _ (by decide +kernel)) ggX11_give_X5_spanOf
set_option maxRecDepth 20000 in
theorem gX11_give_X1_spanOf_u89X6 : GoodIn wsX11_give (va_wsU RX11 89 RX6 "RoomForms$Form" ⟨"RoomForms$Form", "spanOf", "(I)I"⟩ yX1_spanOf wsX1_spanOf) := goodIn_app (goodIn_of _ (by decide +kernel)) ggX11_give_X1_spanOf
set_option maxRecDepth 20000 in
theorem gX11_give_X1_spanOf_u89X9 : GoodIn wsX11_give (va_wsU RX11 89 RX9 "RoomForms$Form" ⟨"RoomForms$Form", "spanOf", "(I)I"⟩ yX1_spanOf wsX1_spanOf) := goodIn_app (goodIn_of _ (by decide +kernel)) ggX11_give_X1_spanOf
set_option maxRecDepth 20000 in
theorem ggX11_give_X0_take : GoodIn wsX11_give wsX0_take := goodIn_r _ [49, 50, 51, 52, 53, 54, 55, 56, 17, 57, 58, 59, 60, 61, 62, 63, 64, 65, 66, 67, 68, 69, 70, 71, 72, 73, 74, 75, 76, 77, 78, 79, 80, 81, 82, 83, 84, 85, 86, 87, 88, 89, 90, 91, 92, 93, 94, 95, 96, 97, 98, 99, 100, 101, 102, 103, 104, 105, 106, 107, 108, 109, 110, 111, 112, 113, 114, 284, 285, 286, 287, 288, 289, 290, 291, 292, 293, 294, 295, 296, 297, 298, 299, 300, 301, 274, 275, 276, 277, 278, 279, 280, 281, 282, 283, 302, 303, 304, 305] (by decide +kernel) (by decide +kernel)
set_option maxRecDepth 20000 in
theorem gX11_give_X0_take_u93X0 : GoodIn wsX11_give (va_wsU RX11 93 RX0 "RoomForms$Form" ⟨"RoomForms$Form", "take", "(I)I"⟩ yX0_take wsX0_take) := goodIn_app (goodIn_of _ (by decide +kernel)) ggX11_give_X0_take
set_option maxRecDepth 20000 in
theorem ggX11_give_X2_take : GoodIn wsX11_give wsX2_take := goodIn_r _ [117, 118, 119, 88, 120, 121, 122, 123, 35, 10, 36, 124, 111, 112, 17, 113, 114, 125, 126, 127, 29, 128, 129, 67, 68, 69, 59, 70, 287, 288, 284, 285, 286, 289, 290, 291, 292, 293, 294, 295, 296, 297, 298, 299, 300, 301, 274, 275, 276, 277, 278, 279, 280, 281, 282, 283] (by decide +kernel) (by decide +kernel)
set_option maxRecDepth 20000 in
theorem gX11_give_X2_take_u93X2 : GoodIn wsX11_give (va_wsU RX11 93 RX2 "RoomForms$Form" ⟨"RoomForms$Form", "take", "(I)I"⟩ yX2_take wsX2_take) := goodIn_app (goodIn_of _ (by decide +kernel)) ggX11_give_X2_take
set_option maxRecDepth 20000 in
theorem ggX11_give_X3_take : GoodIn wsX11_give wsX3_take := goodIn_r _ [132, 133, 134, 135, 136, 137, 138, 139, 33, 140, 141, 111, 112, 17, 113, 114, 142, 143, 144, 145, 284, 285, 286, 287, 288, 289, 290, 291, 292, 293, 294, 295, 296, 297, 298, 299, 300, 301, 274, 275, 276, 277, 278, 279, 280, 281, 282, 283] (by decide +kernel) (by decide +kernel)
set_option maxRecDepth 20000 in
theorem gX11_give_X3_take_u93X3 : GoodIn wsX11_give (va_wsU RX11 93 RX3 "RoomForms$Form" ⟨"RoomForms$Form", "take", "(I)I"⟩ yX3_take wsX3_take) := goodIn_app (goodIn_of _ (by decide +kernel)) ggX11_give_X3_take
set_option maxRecDepth 20000 in
theorem ggX11_give_X4_take : GoodIn wsX11_give wsX4_take := goodIn_r _ [149, 150, 151, 152, 153, 148, 154, 155, 156, 157, 158, 159, 160, 161, 162, 63, 163, 65, 164, 165, 166, 167, 76, 168, 111, 112, 17, 113, 114, 169, 170, 171, 172, 173, 95, 96, 97, 75, 174, 175, 176, 177, 178, 179, 180, 181, 182, 72, 73, 74, 292, 293, 284, 285, 286, 287, 288, 289, 290, 291, 294, 295, 296, 297, 298, 299, 300, 301, 302, 303, 304, 305, 274, 275, 276, 277, 278, 279, 280, 281, 282, 283] (by decide +kernel) (by decide +kernel)
set_option maxRecDepth 20000 in
theorem gX11_give_X4_take_u93X4 : GoodIn wsX11_give (va_wsU RX11 93 RX4 "RoomForms$Form" ⟨"RoomForms$Form", "take", "(I)I"⟩ yX4_take wsX4_take) := goodIn_app (goodIn_of _ (by decide +kernel)) ggX11_give_X4_take
set_option maxRecDepth 20000 in
theorem ggX11_give_X5_take : GoodIn wsX11_give wsX5_take := goodIn_r _ [185, 186, 187, 188, 40, 189, 190, 191, 192, 193, 194, 111, 112, 17, 113, 114, 195, 196, 197, 198, 199, 87, 88, 89, 200, 201, 202, 203, 204, 205, 206, 207, 208, 209, 67, 68, 69, 59, 70, 294, 295, 296, 297, 284, 285, 286, 287, 288, 289, 290, 291, 292, 293, 298, 299, 300, 301, 274, 275, 276, 277, 278, 279, 280, 281, 282, 283] (by decide +kernel) (by decide +kernel)
set_option maxRecDepth 20000 in
theorem gX11_give_X5_take_u93X5 : GoodIn wsX11_give (va_wsU RX11 93 RX5 "RoomForms$Form" ⟨"RoomForms$Form", "take", "(I)I"⟩ yX5_take wsX5_take) := goodIn_app (goodIn_of _ (by decide +kernel)) ggX11_give_X5_take
set_option maxRecDepth 20000 in
theorem ggX11_give_X6_take : GoodIn wsX11_give wsX6_take := goodIn_r _ [213, 214, 215, 216, 212, 217, 218, 219, 161, 162, 63, 163, 65, 220, 165, 166, 167, 76, 221, 95, 96, 97, 75, 222, 175, 176, 177, 178, 179, 180, 181, 223, 224, 225, 226, 227, 228, 229, 55, 56, 17, 57, 58, 59, 60, 61, 62, 64, 66, 67, 68, 69, 70, 71, 72, 73, 74, 230, 78, 79, 80, 81, 82, 83, 84, 85, 86, 87, 88, 89, 90, 91, 92, 93, 94, 98, 99, 100, 101, 102, 103, 104, 105, 231, 107, 108, 109, 232, 111, 112, 113, 114, 233, 234, 235, 236, 237, 238, 239, 240, 241, 242, 243, 244, 245, 119, 120, 246, 247, 298, 299, 302, 303, 304, 305, 284, 285, 286, 287, 288, 289, 290, 291, 292, 293, 294, 295, 296, 297, 300, 301, 274, 275, 276, 277, 278, 279, 280, 281, 282, 283] (by decide +kernel) (by decide +kernel)
set_option maxRecDepth 20000 in
theorem gX11_give_X6_take_u93X6 : GoodIn wsX11_give (va_wsU RX11 93 RX6 "RoomForms$Form" ⟨"RoomForms$Form", "take", "(I)I"⟩ yX6_take wsX6_take) := goodIn_app (goodIn_of _ (by decide +kernel)) ggX11_give_X6_take
set_option maxRecDepth 20000 in
theorem ggX11_give_X9_take : GoodIn wsX11_give wsX9_take := goodIn_r _ [251, 252, 253, 254, 255, 111, 112, 17, 113, 114, 256, 257, 258, 259, 59, 284, 285, 286, 287, 288, 289, 290, 291, 292, 293, 294, 295, 296, 297, 298, 299, 300, 301, 274, 275, 276, 277, 278, 279, 280, 281, 282, 283] (by decide +kernel) (by decide +kernel)
set_option maxRecDepth 20000 in
theorem gX11_give_X9_take_u93X9 : GoodIn wsX11_give (va_wsU RX11 93 RX9 "RoomForms$Form" ⟨"RoomForms$Form", "take", "(I)I"⟩ yX9_take wsX9_take) := goodIn_app (goodIn_of _ (by decide +kernel)) ggX11_give_X9_take
set_option maxRecDepth 20000 in
theorem ggX11_give_X7_settle : GoodIn wsX11_give wsX7_settle := goodIn_r _ [263, 19, 264, 265, 266, 267, 268, 241, 242, 243, 17, 244, 59, 245, 119, 88, 120, 246, 87, 89, 70, 274, 275, 276, 277, 278, 279, 280, 281, 282, 283] (by decide +kernel) (by decide +kernel)
set_option maxRecDepth 20000 in
theorem gX11_give_X7_settle : GoodIn wsX11_give (wsV RX11 96 RX7 yX7_settle wsX7_settle) := goodIn_app (goodIn_of _ (by decide +kernel)) ggX11_give_X7_settle
theorem dX11_give_0 : decode cX11_give 0 = .ok (.iload_n 1, 1) := by decide +kernel
theorem dX11_give_1 : decode cX11_give 1 = .ok (.iconst 1, 1) := by decide +kernel
theorem dX11_give_2 : decode cX11_give 2 = .ok (.if_icmp .lt 10, 3) := by decide +kernel
theorem dX11_give_5 : decode cX11_give 5 = .ok (.iload_n 1, 1) := by decide +kernel
theorem dX11_give_6 : decode cX11_give 6 = .ok (.sipush 1024, 3) := by decide +kernel
theorem dX11_give_9 : decode cX11_give 9 = .ok (.if_icmp .le 13, 3) := by decide +kernel
theorem dX11_give_12 : decode cX11_give 12 = .ok (.new 59, 3) := by decide +kernel
theorem dX11_give_15 : decode cX11_give 15 = .ok (.dup, 1) := by decide +kernel
theorem dX11_give_16 : decode cX11_give 16 = .ok (.ldc 75, 2) := by decide +kernel
theorem dX11_give_18 : decode cX11_give 18 = .ok (.invokespecial 63, 3) := by decide +kernel
theorem dX11_give_21 : decode cX11_give 21 = .ok (.athrow, 1) := by decide +kernel
theorem dX11_give_22 : decode cX11_give 22 = .ok (.aload_n 0, 1) := by decide +kernel
theorem dX11_give_23 : decode cX11_give 23 = .ok (.invokevirtual 77, 3) := by decide +kernel
theorem dX11_give_26 : decode cX11_give 26 = .ok (.aload_n 0, 1) := by decide +kernel
theorem dX11_give_27 : decode cX11_give 27 = .ok (.getfield 10, 3) := by decide +kernel
theorem dX11_give_30 : decode cX11_give 30 = .ok (.invokevirtual 80, 3) := by decide +kernel
theorem dX11_give_33 : decode cX11_give 33 = .ok (.sipush 200, 3) := by decide +kernel
theorem dX11_give_36 : decode cX11_give 36 = .ok (.if_icmp .lt 13, 3) := by decide +kernel
theorem dX11_give_39 : decode cX11_give 39 = .ok (.new 84, 3) := by decide +kernel
theorem dX11_give_42 : decode cX11_give 42 = .ok (.dup, 1) := by decide +kernel
theorem dX11_give_43 : decode cX11_give 43 = .ok (.ldc 86, 2) := by decide +kernel
theorem dX11_give_45 : decode cX11_give 45 = .ok (.invokespecial 88, 3) := by decide +kernel
theorem dX11_give_48 : decode cX11_give 48 = .ok (.athrow, 1) := by decide +kernel
theorem dX11_give_49 : decode cX11_give 49 = .ok (.aload_n 0, 1) := by decide +kernel
theorem dX11_give_50 : decode cX11_give 50 = .ok (.getfield 22, 3) := by decide +kernel
theorem dX11_give_53 : decode cX11_give 53 = .ok (.iload_n 1, 1) := by decide +kernel
theorem dX11_give_54 : decode cX11_give 54 = .ok (.invokevirtual 89, 3) := by decide +kernel
theorem dX11_give_57 : decode cX11_give 57 = .ok (.istore_n 2, 1) := by decide +kernel
theorem dX11_give_58 : decode cX11_give 58 = .ok (.aload_n 0, 1) := by decide +kernel
theorem dX11_give_59 : decode cX11_give 59 = .ok (.getfield 22, 3) := by decide +kernel
theorem dX11_give_62 : decode cX11_give 62 = .ok (.iload_n 2, 1) := by decide +kernel
theorem dX11_give_63 : decode cX11_give 63 = .ok (.invokevirtual 93, 3) := by decide +kernel
theorem dX11_give_66 : decode cX11_give 66 = .ok (.istore_n 3, 1) := by decide +kernel
theorem dX11_give_67 : decode cX11_give 67 = .ok (.iload_n 3, 1) := by decide +kernel
theorem dX11_give_68 : decode cX11_give 68 = .ok (.iconst (-1), 1) := by decide +kernel
theorem dX11_give_69 : decode cX11_give 69 = .ok (.if_icmp .ne 7, 3) := by decide +kernel
theorem dX11_give_72 : decode cX11_give 72 = .ok (.iconst (-1), 1) := by decide +kernel
theorem dX11_give_73 : decode cX11_give 73 = .ok (.goto 13, 3) := by decide +kernel
theorem dX11_give_76 : decode cX11_give 76 = .ok (.aload_n 0, 1) := by decide +kernel
theorem dX11_give_77 : decode cX11_give 77 = .ok (.getfield 10, 3) := by decide +kernel
theorem dX11_give_80 : decode cX11_give 80 = .ok (.iload_n 3, 1) := by decide +kernel
theorem dX11_give_81 : decode cX11_give 81 = .ok (.iload_n 2, 1) := by decide +kernel
theorem dX11_give_82 : decode cX11_give 82 = .ok (.iload_n 1, 1) := by decide +kernel
theorem dX11_give_83 : decode cX11_give 83 = .ok (.invokevirtual 96, 3) := by decide +kernel
theorem dX11_give_86 : decode cX11_give 86 = .ok (.ireturn, 1) := by decide +kernel
set_option maxRecDepth 20000 in
theorem ggX11_back_X11_needRoom : GoodIn wsX11_back wsX11_needRoom := goodIn_ca (goodIn_r _ [7, 8, 9, 2, 136, 137, 138, 139, 140] (by decide +kernel) (by decide +kernel)) (goodIn_sub (fun _ h => List.mem_cons_of_mem _ (List.mem_append_left _ (List.mem_append_right _ h))) (by decide +kernel))
set_option maxRecDepth 20000 in
theorem gX11_back_X11_needRoom : GoodIn wsX11_back (wsV RX11 77 RX11 yX11_needRoom wsX11_needRoom) := goodIn_app (goodIn_of _ (by decide +kernel)) ggX11_back_X11_needRoom
set_option maxRecDepth 20000 in
theorem ggX11_back_X11_needBlock : GoodIn wsX11_back wsX11_needBlock := goodIn_ca (goodIn_r _ [13, 14, 15, 1, 16, 17, 18, 19, 20, 21, 22, 136, 137, 138, 139, 140, 141, 142, 143, 144, 145, 146, 147, 148, 149, 150] (by decide +kernel) (by decide +kernel)) (goodIn_sub (fun _ h => List.mem_cons_of_mem _ (List.mem_append_right _ h)) (by decide +kernel))
set_option maxRecDepth 20000 in
theorem gX11_back_X11_needBlock : GoodIn wsX11_back (wsV RX11 100 RX11 yX11_needBlock wsX11_needBlock) := goodIn_app (goodIn_of _ (by decide +kernel)) ggX11_back_X11_needBlock
set_option maxRecDepth 20000 in
theorem ggX11_back_X7_placeOf : GoodIn wsX11_back wsX7_placeOf := goodIn_r _ [26, 21, 27, 141, 142, 143, 144, 145, 146, 147, 148, 149, 150] (by decide +kernel) (by decide +kernel)
set_option maxRecDepth 20000 in
theorem gX11_back_X7_placeOf : GoodIn wsX11_back (wsV RX11 103 RX7 yX7_placeOf wsX7_placeOf) := goodIn_app (goodIn_of _ (by decide +kernel)) ggX11_back_X7_placeOf
set_option maxRecDepth 20000 in
theorem ggX11_back_X7_spanOf : GoodIn wsX11_back wsX7_spanOf := goodIn_r _ [31, 21, 32, 141, 142, 143, 144, 145, 146, 147, 148, 149, 150] (by decide +kernel) (by decide +kernel)
set_option maxRecDepth 20000 in
theorem gX11_back_X7_spanOf : GoodIn wsX11_back (wsV RX11 106 RX7 yX7_spanOf wsX7_spanOf) := goodIn_app (goodIn_of _ (by decide +kernel)) ggX11_back_X7_spanOf
set_option maxRecDepth 20000 in
theorem ggX11_back_X7_remove : GoodIn wsX11_back wsX7_remove := goodIn_r _ [36, 21, 27, 32, 22, 37, 38, 39, 40, 19, 41, 42, 43, 44, 45, 46, 47, 48, 49, 50, 141, 142, 143, 144, 145, 146, 147, 148, 149, 150] (by decide +kernel) (by decide +kernel)
set_option maxRecDepth 20000 in
theorem gX11_back_X7_remove : GoodIn wsX11_back (wsV RX11 107 RX7 yX7_remove wsX7_remove) := goodIn_app (goodIn_of _ (by decide +kernel)) ggX11_back_X7_remove
set_option maxRecDepth 20000 in
theorem ggX11_back_X0_takeBack : GoodIn wsX11_back wsX0_takeBack := goodIn_r _ [56] (by decide +kernel) (by decide +kernel)
set_option maxRecDepth 20000 in
theorem gX11_back_X0_takeBack_u110X0 : GoodIn wsX11_back (va_wsU RX11 110 RX0 "RoomForms$Form" ⟨"RoomForms$Form", "takeBack", "(II)V"⟩ yX0_takeBack wsX0_takeBack) := goodIn_app (goodIn_of _ (by decide +kernel)) ggX11_back_X0_takeBack
set_option maxRecDepth 20000 in
theorem ggX11_back_X2_takeBack : GoodIn wsX11_back wsX2_takeBack := goodIn_r _ [60] (by decide +kernel) (by decide +kernel)
set_option maxRecDepth 20000 in
theorem gX11_back_X2_takeBack_u110X2 : GoodIn wsX11_back (va_wsU RX11 110 RX2 "RoomForms$Form" ⟨"RoomForms$Form", "takeBack", "(II)V"⟩ yX2_takeBack wsX2_takeBack) := goodIn_app (goodIn_of _ (by decide +kernel)) ggX11_back_X2_takeBack
set_option maxRecDepth 20000 in
theorem ggX11_back_X3_takeBack : GoodIn wsX11_back wsX3_takeBack := goodIn_r _ [64, 65, 66, 67, 44, 45, 46, 151, 152, 153] (by decide +kernel) (by decide +kernel)
set_option maxRecDepth 20000 in
theorem gX11_back_X3_takeBack_u110X3 : GoodIn wsX11_back (va_wsU RX11 110 RX3 "RoomForms$Form" ⟨"RoomForms$Form", "takeBack", "(II)V"⟩ yX3_takeBack wsX3_takeBack) := goodIn_app (goodIn_of _ (by decide +kernel)) ggX11_back_X3_takeBack
set_option maxRecDepth 20000 in
theorem ggX11_back_X4_takeBack : GoodIn wsX11_back wsX4_takeBack := goodIn_r _ [71, 72, 73, 74, 75, 76, 77, 78, 79, 80, 81, 82, 83, 84, 85, 86, 87, 88, 89, 90, 91, 92, 93, 94, 95, 96, 97, 98, 99, 100, 154, 155, 156, 157, 158, 159] (by decide +kernel) (by decide +kernel)
set_option maxRecDepth 20000 in
theorem gX11_back_X4_takeBack_u110X4 : GoodIn wsX11_back (va_wsU RX11 110 RX4 "RoomForms$Form" ⟨"RoomForms$Form", "takeBack", "(II)V"⟩ yX4_takeBack wsX4_takeBack) := goodIn_app (goodIn_of _ (by decide +kernel)) ggX11_back_X4_takeBack
set_option maxRecDepth 20000 in
theorem ggX11_back_X5_takeBack : GoodIn wsX11_back wsX5_takeBack := goodIn_r _ [104, 105, 106, 107, 108, 109, 103, 110, 111, 48, 45, 49, 112, 160, 161, 162, 163] (by decide +kernel) (by decide +kernel)
set_option maxRecDepth 20000 in
theorem gX11_back_X5_takeBack_u110X5 : GoodIn wsX11_back (va_wsU RX11 110 RX5 "RoomForms$Form" ⟨"RoomForms$Form", "takeBack", "(II)V"⟩ yX5_takeBack wsX5_takeBack) := goodIn_app (goodIn_of _ (by decide +kernel)) ggX11_back_X5_takeBack
set_option maxRecDepth 20000 in
theorem ggX11_back_X6_takeBack : GoodIn wsX11_back wsX6_takeBack := goodIn_r _ [116, 117, 118, 119, 120, 98, 99, 76, 100, 78, 83, 84, 121, 122, 123, 19, 124, 38, 39, 40, 41, 42, 43, 44, 45, 46, 47, 48, 49, 50, 164, 165, 166, 167, 168, 169, 170, 151, 152, 153, 154, 155, 160, 161, 162, 163, 171, 172, 156, 157, 158, 159, 141, 142, 143, 144, 145, 146, 147, 148, 149, 150] (by decide +kernel) (by decide +kernel)
set_option maxRecDepth 20000 in
theorem gX11_back_X6_takeBack_u110X6 : GoodIn wsX11_back (va_wsU RX11 110 RX6 "RoomForms$Form" ⟨"RoomForms$Form", "takeBack", "(II)V"⟩ yX6_takeBack wsX6_takeBack) := goodIn_app (goodIn_of _ (by decide +kernel)) ggX11_back_X6_takeBack
set_option maxRecDepth 20000 in
theorem ggX11_back_X9_takeBack : GoodIn wsX11_back wsX9_takeBack := goodIn_r _ [128, 129, 130, 131, 132, 133, 134, 19, 135, 42, 50, 171, 172, 166, 167, 168, 169, 170, 151, 152, 153, 154, 155, 160, 161, 162, 163, 164, 165, 141, 142, 143, 144, 145, 146, 147, 148, 149, 150] (by decide +kernel) (by decide +kernel)
set_option maxRecDepth 20000 in
theorem gX11_back_X9_takeBack_u110X9 : GoodIn wsX11_back (va_wsU RX11 110 RX9 "RoomForms$Form" ⟨"RoomForms$Form", "takeBack", "(II)V"⟩ yX9_takeBack wsX9_takeBack) := goodIn_app (goodIn_of _ (by decide +kernel)) ggX11_back_X9_takeBack
theorem dX11_back_0 : decode cX11_back 0 = .ok (.aload_n 0, 1) := by decide +kernel
theorem dX11_back_1 : decode cX11_back 1 = .ok (.invokevirtual 77, 3) := by decide +kernel
theorem dX11_back_4 : decode cX11_back 4 = .ok (.aload_n 0, 1) := by decide +kernel
theorem dX11_back_5 : decode cX11_back 5 = .ok (.iload_n 1, 1) := by decide +kernel
theorem dX11_back_6 : decode cX11_back 6 = .ok (.invokevirtual 100, 3) := by decide +kernel
theorem dX11_back_9 : decode cX11_back 9 = .ok (.istore_n 2, 1) := by decide +kernel
theorem dX11_back_10 : decode cX11_back 10 = .ok (.aload_n 0, 1) := by decide +kernel
theorem dX11_back_11 : decode cX11_back 11 = .ok (.getfield 10, 3) := by decide +kernel
theorem dX11_back_14 : decode cX11_back 14 = .ok (.iload_n 2, 1) := by decide +kernel
theorem dX11_back_15 : decode cX11_back 15 = .ok (.invokevirtual 103, 3) := by decide +kernel
theorem dX11_back_18 : decode cX11_back 18 = .ok (.istore_n 3, 1) := by decide +kernel
theorem dX11_back_19 : decode cX11_back 19 = .ok (.aload_n 0, 1) := by decide +kernel
theorem dX11_back_20 : decode cX11_back 20 = .ok (.getfield 10, 3) := by decide +kernel
theorem dX11_back_23 : decode cX11_back 23 = .ok (.iload_n 2, 1) := by decide +kernel
theorem dX11_back_24 : decode cX11_back 24 = .ok (.invokevirtual 106, 3) := by decide +kernel
theorem dX11_back_27 : decode cX11_back 27 = .ok (.istore 4, 2) := by decide +kernel
theorem dX11_back_29 : decode cX11_back 29 = .ok (.aload_n 0, 1) := by decide +kernel
theorem dX11_back_30 : decode cX11_back 30 = .ok (.getfield 10, 3) := by decide +kernel
theorem dX11_back_33 : decode cX11_back 33 = .ok (.iload_n 2, 1) := by decide +kernel
theorem dX11_back_34 : decode cX11_back 34 = .ok (.invokevirtual 107, 3) := by decide +kernel
theorem dX11_back_37 : decode cX11_back 37 = .ok (.aload_n 0, 1) := by decide +kernel
theorem dX11_back_38 : decode cX11_back 38 = .ok (.getfield 22, 3) := by decide +kernel
theorem dX11_back_41 : decode cX11_back 41 = .ok (.iload_n 3, 1) := by decide +kernel
theorem dX11_back_42 : decode cX11_back 42 = .ok (.iload 4, 2) := by decide +kernel
theorem dX11_back_44 : decode cX11_back 44 = .ok (.invokevirtual 110, 3) := by decide +kernel
theorem dX11_back_47 : decode cX11_back 47 = .ok (.iload_n 3, 1) := by decide +kernel
theorem dX11_back_48 : decode cX11_back 48 = .ok (.ireturn, 1) := by decide +kernel
set_option maxRecDepth 20000 in
theorem ggX11_about_X11_needRoom : GoodIn wsX11_about wsX11_needRoom := goodIn_ca (goodIn_r _ [8, 9, 10, 11, 40, 41, 42, 43, 44] (by decide +kernel) (by decide +kernel)) (goodIn_sub (fun _ h => List.mem_cons_of_mem _ (List.mem_append_left _ (List.mem_append_right _ h))) (by decide +kernel))
set_option maxRecDepth 20000 in
theorem gX11_about_X11_needRoom : GoodIn wsX11_about (wsV RX11 77 RX11 yX11_needRoom wsX11_needRoom) := goodIn_app (goodIn_of _ (by decide +kernel)) ggX11_about_X11_needRoom
set_option maxRecDepth 20000 in
theorem ggX11_about_X11_needBlock : GoodIn wsX11_about wsX11_needBlock := goodIn_ca (goodIn_r _ [15, 16, 17, 3, 18, 19, 20, 21, 22, 23, 24, 40, 41, 42, 43, 44, 45, 46, 47, 48, 49, 50, 51, 52, 53, 54] (by decide +kernel) (by decide +kernel)) (goodIn_sub (fun _ h => List.mem_cons_of_mem _ (List.mem_append_right _ h)) (by decide +kernel))
set_option maxRecDepth 20000 in
theorem gX11_about_X11_needBlock : GoodIn wsX11_about (wsV RX11 100 RX11 yX11_needBlock wsX11_needBlock) := goodIn_app (goodIn_of _ (by decide +kernel)) ggX11_about_X11_needBlock
set_option maxRecDepth 20000 in
theorem ggX11_about_X7_placeOf : GoodIn wsX11_about wsX7_placeOf := goodIn_r _ [28, 23, 29, 45, 46, 47, 48, 49, 50, 51, 52, 53, 54] (by decide +kernel) (by decide +kernel)
set_option maxRecDepth 20000 in
theorem gX11_about_X7_placeOf : GoodIn wsX11_about (wsV RX11 103 RX7 yX7_placeOf wsX7_placeOf) := goodIn_app (goodIn_of _ (by decide +kernel)) ggX11_about_X7_placeOf
set_option maxRecDepth 20000 in
theorem ggX11_about_X7_spanOf : GoodIn wsX11_about wsX7_spanOf := goodIn_r _ [33, 23, 34, 45, 46, 47, 48, 49, 50, 51, 52, 53, 54] (by decide +kernel) (by decide +kernel)
set_option maxRecDepth 20000 in
theorem gX11_about_X7_spanOf : GoodIn wsX11_about (wsV RX11 106 RX7 yX7_spanOf wsX7_spanOf) := goodIn_app (goodIn_of _ (by decide +kernel)) ggX11_about_X7_spanOf
set_option maxRecDepth 20000 in
theorem ggX11_about_X7_askedOf : GoodIn wsX11_about wsX7_askedOf := goodIn_r _ [38, 23, 39, 45, 46, 47, 48, 49, 50, 51, 52, 53, 54] (by decide +kernel) (by decide +kernel)
set_option maxRecDepth 20000 in
theorem gX11_about_X7_askedOf : GoodIn wsX11_about (wsV RX11 116 RX7 yX7_askedOf wsX7_askedOf) := goodIn_app (goodIn_of _ (by decide +kernel)) ggX11_about_X7_askedOf
theorem dX11_about_0 : decode cX11_about 0 = .ok (.iload_n 2, 1) := by decide +kernel
theorem dX11_about_1 : decode cX11_about 1 = .ok (.ifCond .lt 8, 3) := by decide +kernel
theorem dX11_about_4 : decode cX11_about 4 = .ok (.iload_n 2, 1) := by decide +kernel
theorem dX11_about_5 : decode cX11_about 5 = .ok (.iconst 2, 1) := by decide +kernel
theorem dX11_about_6 : decode cX11_about 6 = .ok (.if_icmp .le 13, 3) := by decide +kernel
theorem dX11_about_9 : decode cX11_about 9 = .ok (.new 59, 3) := by decide +kernel
theorem dX11_about_12 : decode cX11_about 12 = .ok (.dup, 1) := by decide +kernel
theorem dX11_about_13 : decode cX11_about 13 = .ok (.ldc 114, 2) := by decide +kernel
theorem dX11_about_15 : decode cX11_about 15 = .ok (.invokespecial 63, 3) := by decide +kernel
theorem dX11_about_18 : decode cX11_about 18 = .ok (.athrow, 1) := by decide +kernel
theorem dX11_about_19 : decode cX11_about 19 = .ok (.aload_n 0, 1) := by decide +kernel
theorem dX11_about_20 : decode cX11_about 20 = .ok (.invokevirtual 77, 3) := by decide +kernel
theorem dX11_about_23 : decode cX11_about 23 = .ok (.aload_n 0, 1) := by decide +kernel
theorem dX11_about_24 : decode cX11_about 24 = .ok (.iload_n 1, 1) := by decide +kernel
theorem dX11_about_25 : decode cX11_about 25 = .ok (.invokevirtual 100, 3) := by decide +kernel
theorem dX11_about_28 : decode cX11_about 28 = .ok (.istore_n 3, 1) := by decide +kernel
theorem dX11_about_29 : decode cX11_about 29 = .ok (.iload_n 2, 1) := by decide +kernel
theorem dX11_about_30 : decode cX11_about 30 = .ok (.ifCond .ne 12, 3) := by decide +kernel
theorem dX11_about_33 : decode cX11_about 33 = .ok (.aload_n 0, 1) := by decide +kernel
theorem dX11_about_34 : decode cX11_about 34 = .ok (.getfield 10, 3) := by decide +kernel
theorem dX11_about_37 : decode cX11_about 37 = .ok (.iload_n 3, 1) := by decide +kernel
theorem dX11_about_38 : decode cX11_about 38 = .ok (.invokevirtual 103, 3) := by decide +kernel
theorem dX11_about_41 : decode cX11_about 41 = .ok (.ireturn, 1) := by decide +kernel
theorem dX11_about_42 : decode cX11_about 42 = .ok (.iload_n 2, 1) := by decide +kernel
theorem dX11_about_43 : decode cX11_about 43 = .ok (.iconst 1, 1) := by decide +kernel
theorem dX11_about_44 : decode cX11_about 44 = .ok (.if_icmp .ne 14, 3) := by decide +kernel
theorem dX11_about_47 : decode cX11_about 47 = .ok (.aload_n 0, 1) := by decide +kernel
theorem dX11_about_48 : decode cX11_about 48 = .ok (.getfield 10, 3) := by decide +kernel
theorem dX11_about_51 : decode cX11_about 51 = .ok (.iload_n 3, 1) := by decide +kernel
theorem dX11_about_52 : decode cX11_about 52 = .ok (.invokevirtual 106, 3) := by decide +kernel
theorem dX11_about_55 : decode cX11_about 55 = .ok (.goto 11, 3) := by decide +kernel
theorem dX11_about_58 : decode cX11_about 58 = .ok (.aload_n 0, 1) := by decide +kernel
theorem dX11_about_59 : decode cX11_about 59 = .ok (.getfield 10, 3) := by decide +kernel
theorem dX11_about_62 : decode cX11_about 62 = .ok (.iload_n 3, 1) := by decide +kernel
theorem dX11_about_63 : decode cX11_about 63 = .ok (.invokevirtual 116, 3) := by decide +kernel
theorem dX11_about_66 : decode cX11_about 66 = .ok (.ireturn, 1) := by decide +kernel
set_option maxRecDepth 20000 in
theorem ggX11_at_X7_words : GoodIn wsX11_at wsX7_words := goodIn_r _ [9, 10, 32, 33, 34, 35, 36, 37, 38, 39, 40, 41] (by decide +kernel) (by decide +kernel)
set_option maxRecDepth 20000 in
theorem gX11_at_X7_words : GoodIn wsX11_at (wsV RX11 119 RX7 yX7_words wsX7_words) := goodIn_app (goodIn_of _ (by decide +kernel)) ggX11_at_X7_words
set_option maxRecDepth 20000 in
theorem ggX11_at_X11_needRoom : GoodIn wsX11_at wsX11_needRoom := goodIn_ca (goodIn_r _ [15, 16, 17, 3, 27, 28, 29, 30, 31] (by decide +kernel) (by decide +kernel)) (goodIn_sub (fun _ h => List.mem_cons_of_mem _ (List.mem_append_right _ h)) (by decide +kernel))
set_option maxRecDepth 20000 in
theorem gX11_at_X11_needRoom : GoodIn wsX11_at (wsV RX11 77 RX11 yX11_needRoom wsX11_needRoom) := goodIn_app (goodIn_of _ (by decide +kernel)) ggX11_at_X11_needRoom
set_option maxRecDepth 20000 in
theorem ggX11_at_X7_blockAt : GoodIn wsX11_at wsX7_blockAt := goodIn_r _ [21, 10, 22, 23, 24, 25, 26, 32, 33, 34, 35, 36, 37, 38, 39, 40, 41] (by decide +kernel) (by decide +kernel)
set_option maxRecDepth 20000 in
theorem gX11_at_X7_blockAt : GoodIn wsX11_at (wsV RX11 124 RX7 yX7_blockAt wsX7_blockAt) := goodIn_app (goodIn_of _ (by decide +kernel)) ggX11_at_X7_blockAt
theorem dX11_at_0 : decode cX11_at 0 = .ok (.aload_n 0, 1) := by decide +kernel
theorem dX11_at_1 : decode cX11_at 1 = .ok (.getfield 22, 3) := by decide +kernel
theorem dX11_at_4 : decode cX11_at 4 = .ok (.ifnonnull 9, 3) := by decide +kernel
theorem dX11_at_7 : decode cX11_at 7 = .ok (.sipush 1024, 3) := by decide +kernel
theorem dX11_at_10 : decode cX11_at 10 = .ok (.goto 10, 3) := by decide +kernel
theorem dX11_at_13 : decode cX11_at 13 = .ok (.aload_n 0, 1) := by decide +kernel
theorem dX11_at_14 : decode cX11_at 14 = .ok (.getfield 10, 3) := by decide +kernel
theorem dX11_at_17 : decode cX11_at 17 = .ok (.invokevirtual 119, 3) := by decide +kernel
theorem dX11_at_20 : decode cX11_at 20 = .ok (.istore_n 2, 1) := by decide +kernel
theorem dX11_at_21 : decode cX11_at 21 = .ok (.iload_n 1, 1) := by decide +kernel
theorem dX11_at_22 : decode cX11_at 22 = .ok (.ifCond .lt 8, 3) := by decide +kernel
theorem dX11_at_25 : decode cX11_at 25 = .ok (.iload_n 1, 1) := by decide +kernel
theorem dX11_at_26 : decode cX11_at 26 = .ok (.iload_n 2, 1) := by decide +kernel
theorem dX11_at_27 : decode cX11_at 27 = .ok (.if_icmp .lt 13, 3) := by decide +kernel
theorem dX11_at_30 : decode cX11_at 30 = .ok (.new 59, 3) := by decide +kernel
theorem dX11_at_33 : decode cX11_at 33 = .ok (.dup, 1) := by decide +kernel
theorem dX11_at_34 : decode cX11_at 34 = .ok (.ldc 122, 2) := by decide +kernel
theorem dX11_at_36 : decode cX11_at 36 = .ok (.invokespecial 63, 3) := by decide +kernel
theorem dX11_at_39 : decode cX11_at 39 = .ok (.athrow, 1) := by decide +kernel
theorem dX11_at_40 : decode cX11_at 40 = .ok (.aload_n 0, 1) := by decide +kernel
theorem dX11_at_41 : decode cX11_at 41 = .ok (.invokevirtual 77, 3) := by decide +kernel
theorem dX11_at_44 : decode cX11_at 44 = .ok (.aload_n 0, 1) := by decide +kernel
theorem dX11_at_45 : decode cX11_at 45 = .ok (.getfield 10, 3) := by decide +kernel
theorem dX11_at_48 : decode cX11_at 48 = .ok (.iload_n 1, 1) := by decide +kernel
theorem dX11_at_49 : decode cX11_at 49 = .ok (.invokevirtual 124, 3) := by decide +kernel
theorem dX11_at_52 : decode cX11_at 52 = .ok (.ireturn, 1) := by decide +kernel
set_option maxRecDepth 20000 in
theorem ggX11_run_X11_needRoom : GoodIn wsX11_run wsX11_needRoom := goodIn_ca (goodIn_r _ [10, 11, 12, 13, 50, 51, 52, 53, 54] (by decide +kernel) (by decide +kernel)) (goodIn_sub (fun _ h => List.mem_cons_of_mem _ (List.mem_append_right _ h)) (by decide +kernel))
set_option maxRecDepth 20000 in
theorem gX11_run_X11_needRoom : GoodIn wsX11_run (wsV RX11 77 RX11 yX11_needRoom wsX11_needRoom) := goodIn_app (goodIn_of _ (by decide +kernel)) ggX11_run_X11_needRoom
set_option maxRecDepth 20000 in
theorem ggX11_run_X7_listRuns : GoodIn wsX11_run wsX7_listRuns := goodIn_r _ [18, 19, 20, 21, 22, 23, 24, 25, 26, 27, 28, 29, 17, 30, 31, 32, 33, 34, 35, 36, 37, 55, 56, 57, 58, 59, 60, 61, 62, 63, 64, 65, 66, 67, 68] (by decide +kernel) (by decide +kernel)
set_option maxRecDepth 20000 in
theorem gX11_run_X7_listRuns : GoodIn wsX11_run (wsV RX11 129 RX7 yX7_listRuns wsX7_listRuns) := goodIn_app (goodIn_of _ (by decide +kernel)) ggX11_run_X7_listRuns
set_option maxRecDepth 20000 in
theorem ggX11_run_X10_size : GoodIn wsX11_run wsX10_size := goodIn_r _ [41, 26, 65, 66, 67, 68] (by decide +kernel) (by decide +kernel)
set_option maxRecDepth 20000 in
theorem gX11_run_X10_size : GoodIn wsX11_run (wsV RX11 133 RX10 yX10_size wsX10_size) := goodIn_app (goodIn_of _ (by decide +kernel)) ggX11_run_X10_size
set_option maxRecDepth 20000 in
theorem ggX11_run_X10_placeOf : GoodIn wsX11_run wsX10_placeOf := goodIn_r _ [45, 26, 36, 65, 66, 67, 68] (by decide +kernel) (by decide +kernel)
set_option maxRecDepth 20000 in
theorem gX11_run_X10_placeOf : GoodIn wsX11_run (wsV RX11 140 RX10 yX10_placeOf wsX10_placeOf) := goodIn_app (goodIn_of _ (by decide +kernel)) ggX11_run_X10_placeOf
set_option maxRecDepth 20000 in
theorem ggX11_run_X10_wordsOf : GoodIn wsX11_run wsX10_wordsOf := goodIn_r _ [49, 26, 37, 65, 66, 67, 68] (by decide +kernel) (by decide +kernel)
set_option maxRecDepth 20000 in
theorem gX11_run_X10_wordsOf : GoodIn wsX11_run (wsV RX11 141 RX10 yX10_wordsOf wsX10_wordsOf) := goodIn_app (goodIn_of _ (by decide +kernel)) ggX11_run_X10_wordsOf
theorem dX11_run_0 : decode cX11_run 0 = .ok (.iload_n 2, 1) := by decide +kernel
theorem dX11_run_1 : decode cX11_run 1 = .ok (.ifCond .lt 8, 3) := by decide +kernel
theorem dX11_run_4 : decode cX11_run 4 = .ok (.iload_n 2, 1) := by decide +kernel
theorem dX11_run_5 : decode cX11_run 5 = .ok (.iconst 1, 1) := by decide +kernel
theorem dX11_run_6 : decode cX11_run 6 = .ok (.if_icmp .le 13, 3) := by decide +kernel
theorem dX11_run_9 : decode cX11_run 9 = .ok (.new 59, 3) := by decide +kernel
theorem dX11_run_12 : decode cX11_run 12 = .ok (.dup, 1) := by decide +kernel
theorem dX11_run_13 : decode cX11_run 13 = .ok (.ldc 127, 2) := by decide +kernel
theorem dX11_run_15 : decode cX11_run 15 = .ok (.invokespecial 63, 3) := by decide +kernel
theorem dX11_run_18 : decode cX11_run 18 = .ok (.athrow, 1) := by decide +kernel
theorem dX11_run_19 : decode cX11_run 19 = .ok (.aload_n 0, 1) := by decide +kernel
theorem dX11_run_20 : decode cX11_run 20 = .ok (.invokevirtual 77, 3) := by decide +kernel
theorem dX11_run_23 : decode cX11_run 23 = .ok (.aload_n 0, 1) := by decide +kernel
theorem dX11_run_24 : decode cX11_run 24 = .ok (.getfield 10, 3) := by decide +kernel
theorem dX11_run_27 : decode cX11_run 27 = .ok (.invokevirtual 129, 3) := by decide +kernel
theorem dX11_run_30 : decode cX11_run 30 = .ok (.astore_n 3, 1) := by decide +kernel
theorem dX11_run_31 : decode cX11_run 31 = .ok (.iload_n 1, 1) := by decide +kernel
theorem dX11_run_32 : decode cX11_run 32 = .ok (.ifCond .lt 11, 3) := by decide +kernel
theorem dX11_run_35 : decode cX11_run 35 = .ok (.iload_n 1, 1) := by decide +kernel
theorem dX11_run_36 : decode cX11_run 36 = .ok (.aload_n 3, 1) := by decide +kernel
theorem dX11_run_37 : decode cX11_run 37 = .ok (.invokevirtual 133, 3) := by decide +kernel
theorem dX11_run_40 : decode cX11_run 40 = .ok (.if_icmp .lt 13, 3) := by decide +kernel
theorem dX11_run_43 : decode cX11_run 43 = .ok (.new 84, 3) := by decide +kernel
theorem dX11_run_46 : decode cX11_run 46 = .ok (.dup, 1) := by decide +kernel
theorem dX11_run_47 : decode cX11_run 47 = .ok (.ldc 138, 2) := by decide +kernel
theorem dX11_run_49 : decode cX11_run 49 = .ok (.invokespecial 88, 3) := by decide +kernel
theorem dX11_run_52 : decode cX11_run 52 = .ok (.athrow, 1) := by decide +kernel
theorem dX11_run_53 : decode cX11_run 53 = .ok (.iload_n 2, 1) := by decide +kernel
theorem dX11_run_54 : decode cX11_run 54 = .ok (.ifCond .ne 11, 3) := by decide +kernel
theorem dX11_run_57 : decode cX11_run 57 = .ok (.aload_n 3, 1) := by decide +kernel
theorem dX11_run_58 : decode cX11_run 58 = .ok (.iload_n 1, 1) := by decide +kernel
theorem dX11_run_59 : decode cX11_run 59 = .ok (.invokevirtual 140, 3) := by decide +kernel
theorem dX11_run_62 : decode cX11_run 62 = .ok (.goto 8, 3) := by decide +kernel
theorem dX11_run_65 : decode cX11_run 65 = .ok (.aload_n 3, 1) := by decide +kernel
theorem dX11_run_66 : decode cX11_run 66 = .ok (.iload_n 1, 1) := by decide +kernel
theorem dX11_run_67 : decode cX11_run 67 = .ok (.invokevirtual 141, 3) := by decide +kernel
theorem dX11_run_70 : decode cX11_run 70 = .ok (.ireturn, 1) := by decide +kernel
set_option maxRecDepth 20000 in
theorem ggX11_list_X11_needRoom : GoodIn wsX11_list wsX11_needRoom := goodIn_ca (goodIn_r _ [13, 14, 15, 8, 52, 53, 54, 55, 56] (by decide +kernel) (by decide +kernel)) (goodIn_sub (fun _ h => List.mem_cons_of_mem _ (List.mem_append_right _ h)) (by decide +kernel))
set_option maxRecDepth 20000 in
theorem gX11_list_X11_needRoom : GoodIn wsX11_list (wsV RX11 77 RX11 yX11_needRoom wsX11_needRoom) := goodIn_app (goodIn_of _ (by decide +kernel)) ggX11_list_X11_needRoom
set_option maxRecDepth 20000 in
theorem ggX11_list_X1_placeInList : GoodIn wsX11_list wsX1_placeInList := goodIn_r _ [21] (by decide +kernel) (by decide +kernel)
set_option maxRecDepth 20000 in
theorem gX11_list_X1_placeInList_u151X0 : GoodIn wsX11_list (va_wsU RX11 151 RX0 "RoomForms$Form" ⟨"RoomForms$Form", "placeInList", "(II)I"⟩ yX1_placeInList wsX1_placeInList) := goodIn_app (goodIn_of _ (by decide +kernel)) ggX11_list_X1_placeInList
set_option maxRecDepth 20000 in
theorem gX11_list_X1_placeInList_u151X2 : GoodIn wsX11_list (va_wsU RX11 151 RX2 "RoomForms$Form" ⟨"RoomForms$Form", "placeInList", "(II)I"⟩ yX1_placeInList wsX1_placeInList) := goodIn_app (goodIn_of _ (by decide +kernel)) ggX11_list_X1_placeInList
set_option maxRecDepth 20000 in
theorem gX11_list_X1_placeInList_u151X3 : GoodIn wsX11_list (va_wsU RX11 151 RX3 "RoomForms$Form" ⟨"RoomForms$Form", "placeInList", "(II)I"⟩ yX1_placeInList wsX1_placeInList) := goodIn_app (goodIn_of _ (by decide +kernel)) ggX11_list_X1_placeInList
set_option maxRecDepth 20000 in
theorem ggX11_list_X4_placeInList : GoodIn wsX11_list wsX4_placeInList := goodIn_r _ [28, 29, 30, 31, 32, 33, 34, 35, 36, 37, 38, 39, 40, 41, 42, 27, 43, 44, 45, 46, 47, 48, 57, 58, 59, 60, 61, 62] (by decide +kernel) (by decide +kernel)
set_option maxRecDepth 20000 in
theorem gX11_list_X4_placeInList_u151X4 : GoodIn wsX11_list (va_wsO RX11 151 RX4 "RoomForms$Form" ⟨"RoomForms$Form", "placeInList", "(II)I"⟩ yX4_placeInList wsX4_placeInList) := goodIn_app (goodIn_of _ (by decide +kernel)) ggX11_list_X4_placeInList
set_option maxRecDepth 20000 in
theorem gX11_list_X1_placeInList_u151X5 : GoodIn wsX11_list (va_wsU RX11 151 RX5 "RoomForms$Form" ⟨"RoomForms$Form", "placeInList", "(II)I"⟩ yX1_placeInList wsX1_placeInList) := goodIn_app (goodIn_of _ (by decide +kernel)) ggX11_list_X1_placeInList
set_option maxRecDepth 20000 in
theorem gX11_list_X1_placeInList_u151X6 : GoodIn wsX11_list (va_wsU RX11 151 RX6 "RoomForms$Form" ⟨"RoomForms$Form", "placeInList", "(II)I"⟩ yX1_placeInList wsX1_placeInList) := goodIn_app (goodIn_of _ (by decide +kernel)) ggX11_list_X1_placeInList
set_option maxRecDepth 20000 in
theorem gX11_list_X1_placeInList_u151X9 : GoodIn wsX11_list (va_wsU RX11 151 RX9 "RoomForms$Form" ⟨"RoomForms$Form", "placeInList", "(II)I"⟩ yX1_placeInList wsX1_placeInList) := goodIn_app (goodIn_of _ (by decide +kernel)) ggX11_list_X1_placeInList
theorem dX11_list_0 : decode cX11_list 0 = .ok (.iload_n 1, 1) := by decide +kernel
theorem dX11_list_1 : decode cX11_list 1 = .ok (.ifCond .lt 9, 3) := by decide +kernel
theorem dX11_list_4 : decode cX11_list 4 = .ok (.iload_n 1, 1) := by decide +kernel
theorem dX11_list_5 : decode cX11_list 5 = .ok (.bipush 44, 2) := by decide +kernel
theorem dX11_list_7 : decode cX11_list 7 = .ok (.if_icmp .lt 13, 3) := by decide +kernel
theorem dX11_list_10 : decode cX11_list 10 = .ok (.new 59, 3) := by decide +kernel
theorem dX11_list_13 : decode cX11_list 13 = .ok (.dup, 1) := by decide +kernel
theorem dX11_list_14 : decode cX11_list 14 = .ok (.ldc 144, 2) := by decide +kernel
theorem dX11_list_16 : decode cX11_list 16 = .ok (.invokespecial 63, 3) := by decide +kernel
theorem dX11_list_19 : decode cX11_list 19 = .ok (.athrow, 1) := by decide +kernel
theorem dX11_list_20 : decode cX11_list 20 = .ok (.aload_n 0, 1) := by decide +kernel
theorem dX11_list_21 : decode cX11_list 21 = .ok (.invokevirtual 77, 3) := by decide +kernel
theorem dX11_list_24 : decode cX11_list 24 = .ok (.aload_n 0, 1) := by decide +kernel
theorem dX11_list_25 : decode cX11_list 25 = .ok (.getfield 26, 3) := by decide +kernel
theorem dX11_list_28 : decode cX11_list 28 = .ok (.bipush 7, 2) := by decide +kernel
theorem dX11_list_30 : decode cX11_list 30 = .ok (.if_icmp .eq 13, 3) := by decide +kernel
theorem dX11_list_33 : decode cX11_list 33 = .ok (.new 146, 3) := by decide +kernel
theorem dX11_list_36 : decode cX11_list 36 = .ok (.dup, 1) := by decide +kernel
theorem dX11_list_37 : decode cX11_list 37 = .ok (.ldc 148, 2) := by decide +kernel
theorem dX11_list_39 : decode cX11_list 39 = .ok (.invokespecial 150, 3) := by decide +kernel
theorem dX11_list_42 : decode cX11_list 42 = .ok (.athrow, 1) := by decide +kernel
theorem dX11_list_43 : decode cX11_list 43 = .ok (.aload_n 0, 1) := by decide +kernel
theorem dX11_list_44 : decode cX11_list 44 = .ok (.getfield 22, 3) := by decide +kernel
theorem dX11_list_47 : decode cX11_list 47 = .ok (.iload_n 1, 1) := by decide +kernel
theorem dX11_list_48 : decode cX11_list 48 = .ok (.iload_n 2, 1) := by decide +kernel
theorem dX11_list_49 : decode cX11_list 49 = .ok (.invokevirtual 151, 3) := by decide +kernel
theorem dX11_list_52 : decode cX11_list 52 = .ok (.istore_n 3, 1) := by decide +kernel
theorem dX11_list_53 : decode cX11_list 53 = .ok (.iload_n 3, 1) := by decide +kernel
theorem dX11_list_54 : decode cX11_list 54 = .ok (.iconst (-1), 1) := by decide +kernel
theorem dX11_list_55 : decode cX11_list 55 = .ok (.if_icmp .ne 13, 3) := by decide +kernel
theorem dX11_list_58 : decode cX11_list 58 = .ok (.new 84, 3) := by decide +kernel
theorem dX11_list_61 : decode cX11_list 61 = .ok (.dup, 1) := by decide +kernel
theorem dX11_list_62 : decode cX11_list 62 = .ok (.ldc 155, 2) := by decide +kernel
theorem dX11_list_64 : decode cX11_list 64 = .ok (.invokespecial 88, 3) := by decide +kernel
theorem dX11_list_67 : decode cX11_list 67 = .ok (.athrow, 1) := by decide +kernel
theorem dX11_list_68 : decode cX11_list 68 = .ok (.iload_n 3, 1) := by decide +kernel
theorem dX11_list_69 : decode cX11_list 69 = .ok (.ireturn, 1) := by decide +kernel
set_option maxRecDepth 20000 in
theorem ggX11_worst_X8_init : GoodIn wsX11_worst wsX8_init := goodIn_r _ [8, 9, 10, 11, 12, 13, 14, 15, 16, 17, 18, 19, 20, 21, 22, 23, 24, 25, 26, 27, 28, 29, 30, 31, 32, 33, 34, 35, 36, 37, 122, 123, 124, 125, 126, 127, 128, 129, 130, 131, 132, 133, 134] (by decide +kernel) (by decide +kernel)
set_option maxRecDepth 20000 in
theorem gX11_worst_X8_init_n165 : GoodIn wsX11_worst (wsX8_init) := ggX11_worst_X8_init
set_option maxRecDepth 20000 in
theorem ggX11_worst_X8_leastWords : GoodIn wsX11_worst wsX8_leastWords := goodIn_r _ [41, 22, 23, 24, 25, 42, 43, 44, 6, 45, 20, 21, 13, 46, 47, 48, 49, 50, 14, 15, 51, 52, 53, 54, 55, 56, 57, 58, 59, 60, 61, 62, 63, 64, 34, 65, 19, 66, 67, 68, 69, 70, 71, 72, 18, 73, 30, 74, 75, 76, 77, 36, 37, 78, 79, 80, 81, 82, 83, 84, 85, 86, 87, 88, 31, 89, 90, 91, 92, 32, 33, 35, 93, 94, 95, 96, 97, 98, 99, 100, 101, 102, 103, 104, 105, 106, 107, 108, 109, 110, 111, 112, 113, 114, 115, 116, 122, 123, 124, 125, 126, 127, 128, 129, 130, 131, 132, 133, 134] (by decide +kernel) (by decide +kernel)
set_option maxRecDepth 20000 in
theorem gX11_worst_X8_leastWords : GoodIn wsX11_worst (wsV RX11 166 RX8 yX8_leastWords wsX8_leastWords) := goodIn_app (goodIn_of _ (by decide +kernel)) ggX11_worst_X8_leastWords
theorem dX11_worst_0 : decode cX11_worst 0 = .ok (.iload_n 1, 1) := by decide +kernel
theorem dX11_worst_1 : decode cX11_worst 1 = .ok (.ifCond .lt 8, 3) := by decide +kernel
theorem dX11_worst_4 : decode cX11_worst 4 = .ok (.iload_n 1, 1) := by decide +kernel
theorem dX11_worst_5 : decode cX11_worst 5 = .ok (.iconst 4, 1) := by decide +kernel
theorem dX11_worst_6 : decode cX11_worst 6 = .ok (.if_icmp .lt 13, 3) := by decide +kernel
theorem dX11_worst_9 : decode cX11_worst 9 = .ok (.new 59, 3) := by decide +kernel
theorem dX11_worst_12 : decode cX11_worst 12 = .ok (.dup, 1) := by decide +kernel
theorem dX11_worst_13 : decode cX11_worst 13 = .ok (.ldc 157, 2) := by decide +kernel
theorem dX11_worst_15 : decode cX11_worst 15 = .ok (.invokespecial 63, 3) := by decide +kernel
theorem dX11_worst_18 : decode cX11_worst 18 = .ok (.athrow, 1) := by decide +kernel
theorem dX11_worst_19 : decode cX11_worst 19 = .ok (.iload_n 2, 1) := by decide +kernel
theorem dX11_worst_20 : decode cX11_worst 20 = .ok (.iconst 1, 1) := by decide +kernel
theorem dX11_worst_21 : decode cX11_worst 21 = .ok (.if_icmp .lt 8, 3) := by decide +kernel
theorem dX11_worst_24 : decode cX11_worst 24 = .ok (.iload_n 2, 1) := by decide +kernel
theorem dX11_worst_25 : decode cX11_worst 25 = .ok (.iconst 4, 1) := by decide +kernel
theorem dX11_worst_26 : decode cX11_worst 26 = .ok (.if_icmp .le 13, 3) := by decide +kernel
theorem dX11_worst_29 : decode cX11_worst 29 = .ok (.new 59, 3) := by decide +kernel
theorem dX11_worst_32 : decode cX11_worst 32 = .ok (.dup, 1) := by decide +kernel
theorem dX11_worst_33 : decode cX11_worst 33 = .ok (.ldc 159, 2) := by decide +kernel
theorem dX11_worst_35 : decode cX11_worst 35 = .ok (.invokespecial 63, 3) := by decide +kernel
theorem dX11_worst_38 : decode cX11_worst 38 = .ok (.athrow, 1) := by decide +kernel
theorem dX11_worst_39 : decode cX11_worst 39 = .ok (.iload_n 3, 1) := by decide +kernel
theorem dX11_worst_40 : decode cX11_worst 40 = .ok (.iconst 1, 1) := by decide +kernel
theorem dX11_worst_41 : decode cX11_worst 41 = .ok (.if_icmp .lt 14, 3) := by decide +kernel
theorem dX11_worst_44 : decode cX11_worst 44 = .ok (.iload_n 3, 1) := by decide +kernel
theorem dX11_worst_45 : decode cX11_worst 45 = .ok (.bipush 8, 2) := by decide +kernel
theorem dX11_worst_47 : decode cX11_worst 47 = .ok (.if_icmp .gt 8, 3) := by decide +kernel
theorem dX11_worst_50 : decode cX11_worst 50 = .ok (.iload_n 2, 1) := by decide +kernel
theorem dX11_worst_51 : decode cX11_worst 51 = .ok (.iload_n 3, 1) := by decide +kernel
theorem dX11_worst_52 : decode cX11_worst 52 = .ok (.if_icmp .le 13, 3) := by decide +kernel
theorem dX11_worst_55 : decode cX11_worst 55 = .ok (.new 59, 3) := by decide +kernel
theorem dX11_worst_58 : decode cX11_worst 58 = .ok (.dup, 1) := by decide +kernel
theorem dX11_worst_59 : decode cX11_worst 59 = .ok (.ldc 161, 2) := by decide +kernel
theorem dX11_worst_61 : decode cX11_worst 61 = .ok (.invokespecial 63, 3) := by decide +kernel
theorem dX11_worst_64 : decode cX11_worst 64 = .ok (.athrow, 1) := by decide +kernel
theorem dX11_worst_65 : decode cX11_worst 65 = .ok (.aload_n 0, 1) := by decide +kernel
theorem dX11_worst_66 : decode cX11_worst 66 = .ok (.getfield 30, 3) := by decide +kernel
theorem dX11_worst_69 : decode cX11_worst 69 = .ok (.ifnonnull 14, 3) := by decide +kernel
theorem dX11_worst_72 : decode cX11_worst 72 = .ok (.aload_n 0, 1) := by decide +kernel
theorem dX11_worst_73 : decode cX11_worst 73 = .ok (.new 163, 3) := by decide +kernel
theorem dX11_worst_76 : decode cX11_worst 76 = .ok (.dup, 1) := by decide +kernel
theorem dX11_worst_77 : decode cX11_worst 77 = .ok (.invokespecial 165, 3) := by decide +kernel
theorem dX11_worst_80 : decode cX11_worst 80 = .ok (.putfield 30, 3) := by decide +kernel
theorem dX11_worst_83 : decode cX11_worst 83 = .ok (.aload_n 0, 1) := by decide +kernel
theorem dX11_worst_84 : decode cX11_worst 84 = .ok (.getfield 30, 3) := by decide +kernel
theorem dX11_worst_87 : decode cX11_worst 87 = .ok (.iload_n 1, 1) := by decide +kernel
theorem dX11_worst_88 : decode cX11_worst 88 = .ok (.iload_n 2, 1) := by decide +kernel
theorem dX11_worst_89 : decode cX11_worst 89 = .ok (.iload_n 3, 1) := by decide +kernel
theorem dX11_worst_90 : decode cX11_worst 90 = .ok (.invokevirtual 166, 3) := by decide +kernel
theorem dX11_worst_93 : decode cX11_worst 93 = .ok (.ireturn, 1) := by decide +kernel
set_option maxRecDepth 20000 in
theorem ggX11_count_X8_met : GoodIn wsX11_count wsX8_met := goodIn_r _ [10, 11, 148, 149, 150, 151, 152, 153, 154, 155, 156] (by decide +kernel) (by decide +kernel)
set_option maxRecDepth 20000 in
theorem gX11_count_X8_met : GoodIn wsX11_count (wsV RX11 171 RX8 yX8_met wsX8_met) := goodIn_app (goodIn_of _ (by decide +kernel)) ggX11_count_X8_met
set_option maxRecDepth 20000 in
theorem ggX11_count_X11_countInRoom : GoodIn wsX11_count wsX11_countInRoom := goodIn_r _ [16, 17, 18, 19, 20, 21, 22, 23, 24, 25, 26, 27, 28, 29, 30, 31, 32, 33, 34, 35, 36, 37, 38, 39, 40, 41, 42, 43, 44, 45, 46, 47, 48, 49, 50, 51, 52, 53, 54, 55, 56, 57, 58, 59, 60, 61, 62, 63, 64, 65, 66, 67, 68, 69, 70, 71, 72, 73, 74, 75, 76, 77, 78, 79, 80, 81, 82, 143, 144, 145, 146, 147, 157, 158, 159, 160, 161, 162, 163, 164, 165, 166, 167, 168, 169, 170] (by decide +kernel) (by decide +kernel)
set_option maxRecDepth 20000 in
theorem gX11_count_X11_countInRoom : GoodIn wsX11_count (wsV RX11 174 RX11 yX11_countInRoom wsX11_countInRoom) := goodIn_app (goodIn_of _ (by decide +kernel)) ggX11_count_X11_countInRoom
set_option maxRecDepth 20000 in
theorem ggX11_count_X11_countInForm : GoodIn wsX11_count wsX11_countInForm := goodIn_r _ [86, 5, 87, 88, 89, 90, 91, 92, 93, 94, 95, 96, 97, 98, 99, 100, 101, 102, 103, 67, 68, 52, 69, 54, 104, 105, 106, 107, 108, 109, 110, 111, 112, 113, 114, 115, 116, 117, 118, 119, 120, 121, 122, 123, 124, 125, 126, 127, 128, 129, 130, 131, 132, 133, 134, 135, 136, 137, 138, 139, 140, 141, 142, 143, 144, 145, 146, 147, 171, 172, 167, 168, 169, 170, 173, 174, 175, 176, 177, 178, 179, 180, 181] (by decide +kernel) (by decide +kernel)
set_option maxRecDepth 20000 in
theorem gX11_count_X11_countInForm : GoodIn wsX11_count (wsV RX11 177 RX11 yX11_countInForm wsX11_countInForm) := goodIn_app (goodIn_of _ (by decide +kernel)) ggX11_count_X11_countInForm
theorem dX11_count_0 : decode cX11_count 0 = .ok (.iload_n 1, 1) := by decide +kernel
theorem dX11_count_1 : decode cX11_count 1 = .ok (.ifCond .lt 9, 3) := by decide +kernel
theorem dX11_count_4 : decode cX11_count 4 = .ok (.iload_n 1, 1) := by decide +kernel
theorem dX11_count_5 : decode cX11_count 5 = .ok (.bipush 13, 2) := by decide +kernel
theorem dX11_count_7 : decode cX11_count 7 = .ok (.if_icmp .lt 13, 3) := by decide +kernel
theorem dX11_count_10 : decode cX11_count 10 = .ok (.new 59, 3) := by decide +kernel
theorem dX11_count_13 : decode cX11_count 13 = .ok (.dup, 1) := by decide +kernel
theorem dX11_count_14 : decode cX11_count 14 = .ok (.ldc 169, 2) := by decide +kernel
theorem dX11_count_16 : decode cX11_count 16 = .ok (.invokespecial 63, 3) := by decide +kernel
theorem dX11_count_19 : decode cX11_count 19 = .ok (.athrow, 1) := by decide +kernel
theorem dX11_count_20 : decode cX11_count 20 = .ok (.iload_n 1, 1) := by decide +kernel
theorem dX11_count_21 : decode cX11_count 21 = .ok (.ifCond .ne 8, 3) := by decide +kernel
theorem dX11_count_24 : decode cX11_count 24 = .ok (.aload_n 0, 1) := by decide +kernel
theorem dX11_count_25 : decode cX11_count 25 = .ok (.getfield 26, 3) := by decide +kernel
theorem dX11_count_28 : decode cX11_count 28 = .ok (.ireturn, 1) := by decide +kernel
theorem dX11_count_29 : decode cX11_count 29 = .ok (.iload_n 1, 1) := by decide +kernel
theorem dX11_count_30 : decode cX11_count 30 = .ok (.bipush 12, 2) := by decide +kernel
theorem dX11_count_32 : decode cX11_count 32 = .ok (.if_icmp .ne 22, 3) := by decide +kernel
theorem dX11_count_35 : decode cX11_count 35 = .ok (.aload_n 0, 1) := by decide +kernel
theorem dX11_count_36 : decode cX11_count 36 = .ok (.getfield 30, 3) := by decide +kernel
theorem dX11_count_39 : decode cX11_count 39 = .ok (.ifnonnull 7, 3) := by decide +kernel
theorem dX11_count_42 : decode cX11_count 42 = .ok (.iconst 0, 1) := by decide +kernel
theorem dX11_count_43 : decode cX11_count 43 = .ok (.goto 10, 3) := by decide +kernel
theorem dX11_count_46 : decode cX11_count 46 = .ok (.aload_n 0, 1) := by decide +kernel
theorem dX11_count_47 : decode cX11_count 47 = .ok (.getfield 30, 3) := by decide +kernel
theorem dX11_count_50 : decode cX11_count 50 = .ok (.invokevirtual 171, 3) := by decide +kernel
theorem dX11_count_53 : decode cX11_count 53 = .ok (.ireturn, 1) := by decide +kernel
theorem dX11_count_54 : decode cX11_count 54 = .ok (.aload_n 0, 1) := by decide +kernel
theorem dX11_count_55 : decode cX11_count 55 = .ok (.getfield 22, 3) := by decide +kernel
theorem dX11_count_58 : decode cX11_count 58 = .ok (.ifnonnull 5, 3) := by decide +kernel
theorem dX11_count_61 : decode cX11_count 61 = .ok (.iconst 0, 1) := by decide +kernel
theorem dX11_count_62 : decode cX11_count 62 = .ok (.ireturn, 1) := by decide +kernel
theorem dX11_count_63 : decode cX11_count 63 = .ok (.iload_n 1, 1) := by decide +kernel
theorem dX11_count_64 : decode cX11_count 64 = .ok (.bipush 8, 2) := by decide +kernel
theorem dX11_count_66 : decode cX11_count 66 = .ok (.if_icmp .gt 11, 3) := by decide +kernel
theorem dX11_count_69 : decode cX11_count 69 = .ok (.aload_n 0, 1) := by decide +kernel
theorem dX11_count_70 : decode cX11_count 70 = .ok (.iload_n 1, 1) := by decide +kernel
theorem dX11_count_71 : decode cX11_count 71 = .ok (.invokevirtual 174, 3) := by decide +kernel
theorem dX11_count_74 : decode cX11_count 74 = .ok (.goto 8, 3) := by decide +kernel
theorem dX11_count_77 : decode cX11_count 77 = .ok (.aload_n 0, 1) := by decide +kernel
theorem dX11_count_78 : decode cX11_count 78 = .ok (.iload_n 1, 1) := by decide +kernel
theorem dX11_count_79 : decode cX11_count 79 = .ok (.invokevirtual 177, 3) := by decide +kernel
theorem dX11_count_82 : decode cX11_count 82 = .ok (.ireturn, 1) := by decide +kernel
set_option maxRecDepth 20000 in
theorem ggX11_countInRoom_X7_words : GoodIn wsX11_countInRoom wsX7_words := goodIn_r _ [6, 7, 72, 73, 74, 75, 76, 77, 78, 79, 80, 81] (by decide +kernel) (by decide +kernel)
set_option maxRecDepth 20000 in
theorem gX11_countInRoom_X7_words : GoodIn wsX11_countInRoom (wsV RX11 119 RX7 yX7_words wsX7_words) := goodIn_app (goodIn_of _ (by decide +kernel)) ggX11_countInRoom_X7_words
set_option maxRecDepth 20000 in
theorem ggX11_countInRoom_X7_blocks : GoodIn wsX11_countInRoom wsX7_blocks := goodIn_r _ [11, 12, 72, 73, 74, 75, 76, 77, 78, 79, 80, 81] (by decide +kernel) (by decide +kernel)
set_option maxRecDepth 20000 in
theorem gX11_countInRoom_X7_blocks : GoodIn wsX11_countInRoom (wsV RX11 80 RX7 yX7_blocks wsX7_blocks) := goodIn_app (goodIn_of _ (by decide +kernel)) ggX11_countInRoom_X7_blocks
set_option maxRecDepth 20000 in
theorem ggX11_countInRoom_X7_given : GoodIn wsX11_countInRoom wsX7_given := goodIn_r _ [16, 17, 72, 73, 74, 75, 76, 77, 78, 79, 80, 81] (by decide +kernel) (by decide +kernel)
set_option maxRecDepth 20000 in
theorem gX11_countInRoom_X7_given : GoodIn wsX11_countInRoom (wsV RX11 180 RX7 yX7_given wsX7_given) := goodIn_app (goodIn_of _ (by decide +kernel)) ggX11_countInRoom_X7_given
set_option maxRecDepth 20000 in
theorem ggX11_countInRoom_X7_askedTogether : GoodIn wsX11_countInRoom wsX7_askedTogether := goodIn_r _ [21, 12, 22, 72, 73, 74, 75, 76, 77, 78, 79, 80, 81] (by decide +kernel) (by decide +kernel)
set_option maxRecDepth 20000 in
theorem gX11_countInRoom_X7_askedTogether : GoodIn wsX11_countInRoom (wsV RX11 183 RX7 yX7_askedTogether wsX7_askedTogether) := goodIn_app (goodIn_of _ (by decide +kernel)) ggX11_countInRoom_X7_askedTogether
set_option maxRecDepth 20000 in
theorem ggX11_countInRoom_X7_spansTogether : GoodIn wsX11_countInRoom wsX7_spansTogether := goodIn_r _ [26, 12, 27, 72, 73, 74, 75, 76, 77, 78, 79, 80, 81] (by decide +kernel) (by decide +kernel)
set_option maxRecDepth 20000 in
theorem gX11_countInRoom_X7_spansTogether : GoodIn wsX11_countInRoom (wsV RX11 186 RX7 yX7_spansTogether wsX7_spansTogether) := goodIn_app (goodIn_of _ (by decide +kernel)) ggX11_countInRoom_X7_spansTogether
set_option maxRecDepth 20000 in
theorem ggX11_countInRoom_X7_listRuns : GoodIn wsX11_countInRoom wsX7_listRuns := goodIn_r _ [31, 32, 7, 33, 34, 35, 36, 37, 38, 39, 40, 41, 5, 42, 43, 44, 45, 46, 47, 48, 49, 72, 73, 74, 75, 76, 77, 78, 79, 80, 81, 82, 83, 84, 85] (by decide +kernel) (by decide +kernel)
set_option maxRecDepth 20000 in
theorem gX11_countInRoom_X7_listRuns : GoodIn wsX11_countInRoom (wsV RX11 129 RX7 yX7_listRuns wsX7_listRuns) := goodIn_app (goodIn_of _ (by decide +kernel)) ggX11_countInRoom_X7_listRuns
set_option maxRecDepth 20000 in
theorem ggX11_countInRoom_X10_size : GoodIn wsX11_countInRoom wsX10_size := goodIn_r _ [53, 38, 82, 83, 84, 85] (by decide +kernel) (by decide +kernel)
set_option maxRecDepth 20000 in
theorem gX11_countInRoom_X10_size : GoodIn wsX11_countInRoom (wsV RX11 133 RX10 yX10_size wsX10_size) := goodIn_app (goodIn_of _ (by decide +kernel)) ggX11_countInRoom_X10_size
set_option maxRecDepth 20000 in
theorem ggX11_countInRoom_X10_mostWords : GoodIn wsX11_countInRoom wsX10_mostWords := goodIn_r _ [57, 38, 49, 58, 59, 60, 61, 82, 83, 84, 85] (by decide +kernel) (by decide +kernel)
set_option maxRecDepth 20000 in
theorem gX11_countInRoom_X10_mostWords : GoodIn wsX11_countInRoom (wsV RX11 189 RX10 yX10_mostWords wsX10_mostWords) := goodIn_app (goodIn_of _ (by decide +kernel)) ggX11_countInRoom_X10_mostWords
set_option maxRecDepth 20000 in
theorem ggX11_countInRoom_X7_looked : GoodIn wsX11_countInRoom wsX7_looked := goodIn_r _ [65, 66, 72, 73, 74, 75, 76, 77, 78, 79, 80, 81] (by decide +kernel) (by decide +kernel)
set_option maxRecDepth 20000 in
theorem gX11_countInRoom_X7_looked : GoodIn wsX11_countInRoom (wsV RX11 192 RX7 yX7_looked wsX7_looked) := goodIn_app (goodIn_of _ (by decide +kernel)) ggX11_countInRoom_X7_looked
theorem dX11_countInRoom_0 : decode cX11_countInRoom 0 = .ok (.iload_n 1, 1) := by decide +kernel
theorem dX11_countInRoom_1 : decode cX11_countInRoom 1 = .ok (.tableswitch 105 1 7 #[43, 51, 59, 67, 75, 83, 94], 43) := by decide +kernel
theorem dX11_countInRoom_44 : decode cX11_countInRoom 44 = .ok (.aload_n 0, 1) := by decide +kernel
theorem dX11_countInRoom_45 : decode cX11_countInRoom 45 = .ok (.getfield 10, 3) := by decide +kernel
theorem dX11_countInRoom_48 : decode cX11_countInRoom 48 = .ok (.invokevirtual 119, 3) := by decide +kernel
theorem dX11_countInRoom_51 : decode cX11_countInRoom 51 = .ok (.ireturn, 1) := by decide +kernel
theorem dX11_countInRoom_52 : decode cX11_countInRoom 52 = .ok (.aload_n 0, 1) := by decide +kernel
theorem dX11_countInRoom_53 : decode cX11_countInRoom 53 = .ok (.getfield 10, 3) := by decide +kernel
theorem dX11_countInRoom_56 : decode cX11_countInRoom 56 = .ok (.invokevirtual 80, 3) := by decide +kernel
theorem dX11_countInRoom_59 : decode cX11_countInRoom 59 = .ok (.ireturn, 1) := by decide +kernel
theorem dX11_countInRoom_60 : decode cX11_countInRoom 60 = .ok (.aload_n 0, 1) := by decide +kernel
theorem dX11_countInRoom_61 : decode cX11_countInRoom 61 = .ok (.getfield 10, 3) := by decide +kernel
theorem dX11_countInRoom_64 : decode cX11_countInRoom 64 = .ok (.invokevirtual 180, 3) := by decide +kernel
theorem dX11_countInRoom_67 : decode cX11_countInRoom 67 = .ok (.ireturn, 1) := by decide +kernel
theorem dX11_countInRoom_68 : decode cX11_countInRoom 68 = .ok (.aload_n 0, 1) := by decide +kernel
theorem dX11_countInRoom_69 : decode cX11_countInRoom 69 = .ok (.getfield 10, 3) := by decide +kernel
theorem dX11_countInRoom_72 : decode cX11_countInRoom 72 = .ok (.invokevirtual 183, 3) := by decide +kernel
theorem dX11_countInRoom_75 : decode cX11_countInRoom 75 = .ok (.ireturn, 1) := by decide +kernel
theorem dX11_countInRoom_76 : decode cX11_countInRoom 76 = .ok (.aload_n 0, 1) := by decide +kernel
theorem dX11_countInRoom_77 : decode cX11_countInRoom 77 = .ok (.getfield 10, 3) := by decide +kernel
theorem dX11_countInRoom_80 : decode cX11_countInRoom 80 = .ok (.invokevirtual 186, 3) := by decide +kernel
theorem dX11_countInRoom_83 : decode cX11_countInRoom 83 = .ok (.ireturn, 1) := by decide +kernel
theorem dX11_countInRoom_84 : decode cX11_countInRoom 84 = .ok (.aload_n 0, 1) := by decide +kernel
theorem dX11_countInRoom_85 : decode cX11_countInRoom 85 = .ok (.getfield 10, 3) := by decide +kernel
theorem dX11_countInRoom_88 : decode cX11_countInRoom 88 = .ok (.invokevirtual 129, 3) := by decide +kernel
theorem dX11_countInRoom_91 : decode cX11_countInRoom 91 = .ok (.invokevirtual 133, 3) := by decide +kernel
theorem dX11_countInRoom_94 : decode cX11_countInRoom 94 = .ok (.ireturn, 1) := by decide +kernel
theorem dX11_countInRoom_95 : decode cX11_countInRoom 95 = .ok (.aload_n 0, 1) := by decide +kernel
theorem dX11_countInRoom_96 : decode cX11_countInRoom 96 = .ok (.getfield 10, 3) := by decide +kernel
theorem dX11_countInRoom_99 : decode cX11_countInRoom 99 = .ok (.invokevirtual 129, 3) := by decide +kernel
theorem dX11_countInRoom_102 : decode cX11_countInRoom 102 = .ok (.invokevirtual 189, 3) := by decide +kernel
theorem dX11_countInRoom_105 : decode cX11_countInRoom 105 = .ok (.ireturn, 1) := by decide +kernel
theorem dX11_countInRoom_106 : decode cX11_countInRoom 106 = .ok (.aload_n 0, 1) := by decide +kernel
theorem dX11_countInRoom_107 : decode cX11_countInRoom 107 = .ok (.getfield 10, 3) := by decide +kernel
theorem dX11_countInRoom_110 : decode cX11_countInRoom 110 = .ok (.invokevirtual 192, 3) := by decide +kernel
theorem dX11_countInRoom_113 : decode cX11_countInRoom 113 = .ok (.ireturn, 1) := by decide +kernel
set_option maxRecDepth 20000 in
theorem ggX11_countInForm_X1_quickOnes : GoodIn wsX11_countInForm wsX1_quickOnes := goodIn_r _ [7] (by decide +kernel) (by decide +kernel)
set_option maxRecDepth 20000 in
theorem gX11_countInForm_X1_quickOnes_u195X0 : GoodIn wsX11_countInForm (va_wsU RX11 195 RX0 "RoomForms$Form" ⟨"RoomForms$Form", "quickOnes", "()I"⟩ yX1_quickOnes wsX1_quickOnes) := goodIn_app (goodIn_of _ (by decide +kernel)) ggX11_countInForm_X1_quickOnes
set_option maxRecDepth 20000 in
theorem gX11_countInForm_X1_quickOnes_u195X2 : GoodIn wsX11_countInForm (va_wsU RX11 195 RX2 "RoomForms$Form" ⟨"RoomForms$Form", "quickOnes", "()I"⟩ yX1_quickOnes wsX1_quickOnes) := goodIn_app (goodIn_of _ (by decide +kernel)) ggX11_countInForm_X1_quickOnes
set_option maxRecDepth 20000 in
theorem gX11_countInForm_X1_quickOnes_u195X3 : GoodIn wsX11_countInForm (va_wsU RX11 195 RX3 "RoomForms$Form" ⟨"RoomForms$Form", "quickOnes", "()I"⟩ yX1_quickOnes wsX1_quickOnes) := goodIn_app (goodIn_of _ (by decide +kernel)) ggX11_countInForm_X1_quickOnes
set_option maxRecDepth 20000 in
theorem gX11_countInForm_X1_quickOnes_u195X4 : GoodIn wsX11_countInForm (va_wsU RX11 195 RX4 "RoomForms$Form" ⟨"RoomForms$Form", "quickOnes", "()I"⟩ yX1_quickOnes wsX1_quickOnes) := goodIn_app (goodIn_of _ (by decide +kernel)) ggX11_countInForm_X1_quickOnes
set_option maxRecDepth 20000 in
theorem gX11_countInForm_X1_quickOnes_u195X5 : GoodIn wsX11_countInForm (va_wsU RX11 195 RX5 "RoomForms$Form" ⟨"RoomForms$Form", "quickOnes", "()I"⟩ yX1_quickOnes wsX1_quickOnes) := goodIn_app (goodIn_of _ (by decide +kernel)) ggX11_countInForm_X1_quickOnes
set_option maxRecDepth 20000 in
theorem ggX11_countInForm_X6_quickOnes : GoodIn wsX11_countInForm wsX6_quickOnes := goodIn_r _ [16, 17, 18, 19, 20, 21, 22, 23, 68, 69, 70, 71, 72, 73] (by decide +kernel) (by decide +kernel)
set_option maxRecDepth 20000 in
theorem gX11_countInForm_X6_quickOnes_u195X6 : GoodIn wsX11_countInForm (va_wsO RX11 195 RX6 "RoomForms$Form" ⟨"RoomForms$Form", "quickOnes", "()I"⟩ yX6_quickOnes wsX6_quickOnes) := goodIn_app (goodIn_of _ (by decide +kernel)) ggX11_countInForm_X6_quickOnes
set_option maxRecDepth 20000 in
theorem gX11_countInForm_X1_quickOnes_u195X9 : GoodIn wsX11_countInForm (va_wsU RX11 195 RX9 "RoomForms$Form" ⟨"RoomForms$Form", "quickOnes", "()I"⟩ yX1_quickOnes wsX1_quickOnes) := goodIn_app (goodIn_of _ (by decide +kernel)) ggX11_countInForm_X1_quickOnes
set_option maxRecDepth 20000 in
theorem ggX11_countInForm_X1_freeParts : GoodIn wsX11_countInForm wsX1_freeParts := goodIn_r _ [29] (by decide +kernel) (by decide +kernel)
set_option maxRecDepth 20000 in
theorem gX11_countInForm_X1_freeParts_u198X0 : GoodIn wsX11_countInForm (va_wsU RX11 198 RX0 "RoomForms$Form" ⟨"RoomForms$Form", "freeParts", "()I"⟩ yX1_freeParts wsX1_freeParts) := goodIn_app (goodIn_of _ (by decide +kernel)) ggX11_countInForm_X1_freeParts
set_option maxRecDepth 20000 in
theorem gX11_countInForm_X1_freeParts_u198X2 : GoodIn wsX11_countInForm (va_wsU RX11 198 RX2 "RoomForms$Form" ⟨"RoomForms$Form", "freeParts", "()I"⟩ yX1_freeParts wsX1_freeParts) := goodIn_app (goodIn_of _ (by decide +kernel)) ggX11_countInForm_X1_freeParts
set_option maxRecDepth 20000 in
theorem ggX11_countInForm_X3_freeParts : GoodIn wsX11_countInForm wsX3_freeParts := goodIn_r _ [35, 36, 37, 74, 75, 76] (by decide +kernel) (by decide +kernel)
set_option maxRecDepth 20000 in
theorem gX11_countInForm_X3_freeParts_u198X3 : GoodIn wsX11_countInForm (va_wsO RX11 198 RX3 "RoomForms$Form" ⟨"RoomForms$Form", "freeParts", "()I"⟩ yX3_freeParts wsX3_freeParts) := goodIn_app (goodIn_of _ (by decide +kernel)) ggX11_countInForm_X3_freeParts
set_option maxRecDepth 20000 in
theorem gX11_countInForm_X1_freeParts_u198X4 : GoodIn wsX11_countInForm (va_wsU RX11 198 RX4 "RoomForms$Form" ⟨"RoomForms$Form", "freeParts", "()I"⟩ yX1_freeParts wsX1_freeParts) := goodIn_app (goodIn_of _ (by decide +kernel)) ggX11_countInForm_X1_freeParts
set_option maxRecDepth 20000 in
theorem ggX11_countInForm_X5_freeParts : GoodIn wsX11_countInForm wsX5_freeParts := goodIn_r _ [42, 43, 44, 77, 78, 79, 80] (by decide +kernel) (by decide +kernel)
set_option maxRecDepth 20000 in
theorem gX11_countInForm_X5_freeParts_u198X5 : GoodIn wsX11_countInForm (va_wsO RX11 198 RX5 "RoomForms$Form" ⟨"RoomForms$Form", "freeParts", "()I"⟩ yX5_freeParts wsX5_freeParts) := goodIn_app (goodIn_of _ (by decide +kernel)) ggX11_countInForm_X5_freeParts
set_option maxRecDepth 20000 in
theorem gX11_countInForm_X1_freeParts_u198X6 : GoodIn wsX11_countInForm (va_wsU RX11 198 RX6 "RoomForms$Form" ⟨"RoomForms$Form", "freeParts", "()I"⟩ yX1_freeParts wsX1_freeParts) := goodIn_app (goodIn_of _ (by decide +kernel)) ggX11_countInForm_X1_freeParts
set_option maxRecDepth 20000 in
theorem gX11_countInForm_X1_freeParts_u198X9 : GoodIn wsX11_countInForm (va_wsU RX11 198 RX9 "RoomForms$Form" ⟨"RoomForms$Form", "freeParts", "()I"⟩ yX1_freeParts wsX1_freeParts) := goodIn_app (goodIn_of _ (by decide +kernel)) ggX11_countInForm_X1_freeParts
set_option maxRecDepth 20000 in
theorem ggX11_countInForm_X1_top : GoodIn wsX11_countInForm wsX1_top := goodIn_r _ [51] (by decide +kernel) (by decide +kernel)
set_option maxRecDepth 20000 in
theorem gX11_countInForm_X1_top_u201X0 : GoodIn wsX11_countInForm (va_wsU RX11 201 RX0 "RoomForms$Form" ⟨"RoomForms$Form", "top", "()I"⟩ yX1_top wsX1_top) := goodIn_app (goodIn_of _ (by decide +kernel)) ggX11_countInForm_X1_top
set_option maxRecDepth 20000 in
theorem gX11_countInForm_X1_top_u201X2 : GoodIn wsX11_countInForm (va_wsU RX11 201 RX2 "RoomForms$Form" ⟨"RoomForms$Form", "top", "()I"⟩ yX1_top wsX1_top) := goodIn_app (goodIn_of _ (by decide +kernel)) ggX11_countInForm_X1_top
set_option maxRecDepth 20000 in
theorem gX11_countInForm_X1_top_u201X3 : GoodIn wsX11_countInForm (va_wsU RX11 201 RX3 "RoomForms$Form" ⟨"RoomForms$Form", "top", "()I"⟩ yX1_top wsX1_top) := goodIn_app (goodIn_of _ (by decide +kernel)) ggX11_countInForm_X1_top
set_option maxRecDepth 20000 in
theorem gX11_countInForm_X1_top_u201X4 : GoodIn wsX11_countInForm (va_wsU RX11 201 RX4 "RoomForms$Form" ⟨"RoomForms$Form", "top", "()I"⟩ yX1_top wsX1_top) := goodIn_app (goodIn_of _ (by decide +kernel)) ggX11_countInForm_X1_top
set_option maxRecDepth 20000 in
theorem gX11_countInForm_X1_top_u201X5 : GoodIn wsX11_countInForm (va_wsU RX11 201 RX5 "RoomForms$Form" ⟨"RoomForms$Form", "top", "()I"⟩ yX1_top wsX1_top) := goodIn_app (goodIn_of _ (by decide +kernel)) ggX11_countInForm_X1_top
set_option maxRecDepth 20000 in
theorem gX11_countInForm_X1_top_u201X6 : GoodIn wsX11_countInForm (va_wsU RX11 201 RX6 "RoomForms$Form" ⟨"RoomForms$Form", "top", "()I"⟩ yX1_top wsX1_top) := goodIn_app (goodIn_of _ (by decide +kernel)) ggX11_countInForm_X1_top
set_option maxRecDepth 20000 in
theorem ggX11_countInForm_X9_top : GoodIn wsX11_countInForm wsX9_top := goodIn_r _ [61, 62, 81, 82] (by decide +kernel) (by decide +kernel)
set_option maxRecDepth 20000 in
theorem gX11_countInForm_X9_top_u201X9 : GoodIn wsX11_countInForm (va_wsO RX11 201 RX9 "RoomForms$Form" ⟨"RoomForms$Form", "top", "()I"⟩ yX9_top wsX9_top) := goodIn_app (goodIn_of _ (by decide +kernel)) ggX11_countInForm_X9_top
theorem dX11_countInForm_0 : decode cX11_countInForm 0 = .ok (.iload_n 1, 1) := by decide +kernel
theorem dX11_countInForm_1 : decode cX11_countInForm 1 = .ok (.lookupswitch 43 #[(9, 27), (10, 35)], 27) := by decide +kernel
theorem dX11_countInForm_28 : decode cX11_countInForm 28 = .ok (.aload_n 0, 1) := by decide +kernel
theorem dX11_countInForm_29 : decode cX11_countInForm 29 = .ok (.getfield 22, 3) := by decide +kernel
theorem dX11_countInForm_32 : decode cX11_countInForm 32 = .ok (.invokevirtual 195, 3) := by decide +kernel
theorem dX11_countInForm_35 : decode cX11_countInForm 35 = .ok (.ireturn, 1) := by decide +kernel
theorem dX11_countInForm_36 : decode cX11_countInForm 36 = .ok (.aload_n 0, 1) := by decide +kernel
theorem dX11_countInForm_37 : decode cX11_countInForm 37 = .ok (.getfield 22, 3) := by decide +kernel
theorem dX11_countInForm_40 : decode cX11_countInForm 40 = .ok (.invokevirtual 198, 3) := by decide +kernel
theorem dX11_countInForm_43 : decode cX11_countInForm 43 = .ok (.ireturn, 1) := by decide +kernel
theorem dX11_countInForm_44 : decode cX11_countInForm 44 = .ok (.aload_n 0, 1) := by decide +kernel
theorem dX11_countInForm_45 : decode cX11_countInForm 45 = .ok (.getfield 22, 3) := by decide +kernel
theorem dX11_countInForm_48 : decode cX11_countInForm 48 = .ok (.invokevirtual 201, 3) := by decide +kernel
theorem dX11_countInForm_51 : decode cX11_countInForm 51 = .ok (.ireturn, 1) := by decide +kernel
theorem dX11_needRoom_0 : decode cX11_needRoom 0 = .ok (.aload_n 0, 1) := by decide +kernel
theorem dX11_needRoom_1 : decode cX11_needRoom 1 = .ok (.getfield 22, 3) := by decide +kernel
theorem dX11_needRoom_4 : decode cX11_needRoom 4 = .ok (.ifnonnull 13, 3) := by decide +kernel
theorem dX11_needRoom_7 : decode cX11_needRoom 7 = .ok (.new 204, 3) := by decide +kernel
theorem dX11_needRoom_10 : decode cX11_needRoom 10 = .ok (.dup, 1) := by decide +kernel
theorem dX11_needRoom_11 : decode cX11_needRoom 11 = .ok (.ldc 206, 2) := by decide +kernel
theorem dX11_needRoom_13 : decode cX11_needRoom 13 = .ok (.invokespecial 208, 3) := by decide +kernel
theorem dX11_needRoom_16 : decode cX11_needRoom 16 = .ok (.athrow, 1) := by decide +kernel
theorem dX11_needRoom_17 : decode cX11_needRoom 17 = .ok (.return_, 1) := by decide +kernel
set_option maxRecDepth 20000 in
theorem ggX11_needBlock_X7_slotOf : GoodIn wsX11_needBlock wsX7_slotOf := goodIn_r _ [8, 9, 10, 16, 17, 18, 19, 20, 21, 22, 23, 24, 25] (by decide +kernel) (by decide +kernel)
set_option maxRecDepth 20000 in
theorem gX11_needBlock_X7_slotOf : GoodIn wsX11_needBlock (wsV RX11 209 RX7 yX7_slotOf wsX7_slotOf) := goodIn_app (goodIn_of _ (by decide +kernel)) ggX11_needBlock_X7_slotOf
theorem dX11_needBlock_0 : decode cX11_needBlock 0 = .ok (.aload_n 0, 1) := by decide +kernel
theorem dX11_needBlock_1 : decode cX11_needBlock 1 = .ok (.getfield 10, 3) := by decide +kernel
theorem dX11_needBlock_4 : decode cX11_needBlock 4 = .ok (.iload_n 1, 1) := by decide +kernel
theorem dX11_needBlock_5 : decode cX11_needBlock 5 = .ok (.invokevirtual 209, 3) := by decide +kernel
theorem dX11_needBlock_8 : decode cX11_needBlock 8 = .ok (.istore_n 2, 1) := by decide +kernel
theorem dX11_needBlock_9 : decode cX11_needBlock 9 = .ok (.iload_n 2, 1) := by decide +kernel
theorem dX11_needBlock_10 : decode cX11_needBlock 10 = .ok (.iconst (-1), 1) := by decide +kernel
theorem dX11_needBlock_11 : decode cX11_needBlock 11 = .ok (.if_icmp .ne 13, 3) := by decide +kernel
theorem dX11_needBlock_14 : decode cX11_needBlock 14 = .ok (.new 212, 3) := by decide +kernel
theorem dX11_needBlock_17 : decode cX11_needBlock 17 = .ok (.dup, 1) := by decide +kernel
theorem dX11_needBlock_18 : decode cX11_needBlock 18 = .ok (.ldc 214, 2) := by decide +kernel
theorem dX11_needBlock_20 : decode cX11_needBlock 20 = .ok (.invokespecial 216, 3) := by decide +kernel
theorem dX11_needBlock_23 : decode cX11_needBlock 23 = .ok (.athrow, 1) := by decide +kernel
theorem dX11_needBlock_24 : decode cX11_needBlock 24 = .ok (.iload_n 2, 1) := by decide +kernel
theorem dX11_needBlock_25 : decode cX11_needBlock 25 = .ok (.ireturn, 1) := by decide +kernel
