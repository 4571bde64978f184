def wsL_law0_r1 : List Cond := [Cond.classLink RL 8 RX11, Cond.instantiable RX11 5, Cond.initialized RX11, Cond.classLink RL 51 RX12, Cond.instantiable RX12 36, Cond.initialized RX12, Cond.arrayClass .long, Cond.methodLink RL 50 yX11_init, Cond.instanceMethod yX11_init, Cond.code yX11_init cX11_init 2 none, Cond.methodLink RX11 1 objectInit, Cond.instanceMethod objectInit, Cond.code objectInit ⟨#[0xb1]⟩ 1 none, Cond.classLink RX11 7 RX7, Cond.instantiable RX7 10, Cond.initialized RX7, Cond.fieldLink RX11 10 "RoomForms" "room" "LRoomForms$Room;", Cond.classLink RX11 16 RX1, Cond.fieldLink RX11 18 "RoomForms" "forms" "[LRoomForms$Form;", Cond.fieldLink RX11 22 "RoomForms" "form" "LRoomForms$Form;", Cond.fieldLink RX11 26 "RoomForms" "formNumber" "I", Cond.fieldLink RX11 30 "RoomForms" "search" "LRoomForms$Search;", Cond.classLink RX11 34 RX0, Cond.instantiable RX0 3]
def wsL_law0_r2 : List Cond := [Cond.initialized RX0, Cond.classLink RX11 39 RX3, Cond.instantiable RX3 3, Cond.initialized RX3, Cond.classLink RX11 44 RX5, Cond.instantiable RX5 4, Cond.initialized RX5, Cond.classLink RX11 47 RX2, Cond.instantiable RX2 2, Cond.initialized RX2, Cond.classLink RX11 50 RX4, Cond.instantiable RX4 2, Cond.initialized RX4, Cond.classLink RX11 53 RX9, Cond.instantiable RX9 2, Cond.initialized RX9, Cond.classLink RX11 56 RX6, Cond.instantiable RX6 2, Cond.initialized RX6, Cond.instanceMethod yX7_init, Cond.code yX7_init cX7_init 1 none, Cond.methodLink RX7 3 objectInit, Cond.arrayClass .int, Cond.fieldLink RX7 9 "RoomForms$Room" "owners" "[I"]
def wsL_law0_r3 : List Cond := [Cond.fieldLink RX7 15 "RoomForms$Room" "numbers" "[I", Cond.fieldLink RX7 18 "RoomForms$Room" "places" "[I", Cond.fieldLink RX7 21 "RoomForms$Room" "spans" "[I", Cond.fieldLink RX7 24 "RoomForms$Room" "asked" "[I", Cond.classLink RX7 27 RX10, Cond.instantiable RX10 4, Cond.initialized RX10, Cond.fieldLink RX7 32 "RoomForms$Room" "runs" "LRoomForms$Stretches;", Cond.fieldLink RX7 36 "RoomForms$Room" "words" "I", Cond.fieldLink RX7 40 "RoomForms$Room" "blocks" "I", Cond.fieldLink RX7 43 "RoomForms$Room" "given" "I", Cond.fieldLink RX7 46 "RoomForms$Room" "looked" "I", Cond.methodLink RX7 29 yX10_init, Cond.instanceMethod yX10_init, Cond.code yX10_init cX10_init 3 none, Cond.methodLink RX10 3 objectInit, Cond.fieldLink RX10 9 "RoomForms$Stretches" "size" "I", Cond.fieldLink RX10 15 "RoomForms$Stretches" "looked" "I", Cond.methodLink RX10 18 Lib.Math.max.name, Cond.static Lib.Math.max.name, Cond.initialized "java/lang/Math", Cond.code Lib.Math.max.name Lib.Math.max.code 2 (some .int), Cond.fieldLink RX10 24 "RoomForms$Stretches" "places" "[I", Cond.fieldLink RX10 28 "RoomForms$Stretches" "words" "[I"]
def wsL_law0_r4 : List Cond := [Cond.methodLink RX11 36 yX0_init, Cond.instanceMethod yX0_init, Cond.code yX0_init cX0_init 3 none, Cond.fieldLink RX0 9 "RoomForms$Fits" "lastEnd" "I", Cond.fieldLink RX0 15 "RoomForms$Fits" "number" "I", Cond.methodLink RX0 3 yX1_init, Cond.instanceMethod yX1_init, Cond.initialized RX1, Cond.code yX1_init cX1_init 2 none, Cond.methodLink RX1 3 objectInit, Cond.fieldLink RX1 9 "RoomForms$Form" "room" "LRoomForms$Room;", Cond.methodLink RX11 41 yX3_init, Cond.instanceMethod yX3_init, Cond.code yX3_init cX3_init 2 none, Cond.fieldLink RX3 9 "RoomForms$Halves" "pieces" "[I", Cond.fieldLink RX3 15 "RoomForms$Halves" "whole" "I", Cond.methodLink RX3 3 yX1_init, Cond.methodLink RX11 46 yX5_init, Cond.instanceMethod yX5_init, Cond.code yX5_init cX5_init 2 none, Cond.fieldLink RX5 11 "RoomForms$Pages" "spans" "[I", Cond.fieldLink RX5 15 "RoomForms$Pages" "blocks" "[I", Cond.fieldLink RX5 18 "RoomForms$Pages" "pages" "I", Cond.methodLink RX5 3 yX1_init]
def wsL_law0_r5 : List Cond := [Cond.methodLink RX11 49 yX2_init, Cond.instanceMethod yX2_init, Cond.code yX2_init cX2_init 2 none, Cond.fieldLink RX2 9 "RoomForms$Grains" "grains" "I", Cond.methodLink RX2 3 yX1_init, Cond.methodLink RX11 52 yX4_init, Cond.instanceMethod yX4_init, Cond.code yX4_init cX4_init 2 none, Cond.classLink RX4 9 RX10, Cond.fieldLink RX4 14 "RoomForms$Levels" "runs" "LRoomForms$Stretches;", Cond.methodLink RX4 3 yX1_init, Cond.methodLink RX4 11 yX10_init, Cond.methodLink RX11 55 yX9_init, Cond.instanceMethod yX9_init, Cond.code yX9_init cX9_init 2 none, Cond.fieldLink RX9 9 "RoomForms$Stack" "top" "I", Cond.methodLink RX9 3 yX1_init, Cond.methodLink RX11 58 yX6_init, Cond.instanceMethod yX6_init, Cond.code yX6_init cX6_init 2 none, Cond.classLink RX6 9 RX10, Cond.fieldLink RX6 14 "RoomForms$Quick" "quick" "LRoomForms$Stretches;", Cond.methodLink RX6 3 yX1_init, Cond.methodLink RX6 11 yX10_init]
def wsL_law0_r6 : List Cond := [Cond.methodLink RL 53 yX12_init, Cond.instanceMethod yX12_init, Cond.code yX12_init cX12_init 1 none, Cond.methodLink RX12 7 objectInit, Cond.fieldLink RX12 13 "RoomFormsModel" "form" "I", Cond.fieldLink RX12 16 "RoomFormsModel" "owner" "[I", Cond.fieldLink RX12 20 "RoomFormsModel" "number" "[I", Cond.fieldLink RX12 23 "RoomFormsModel" "place" "[I", Cond.fieldLink RX12 26 "RoomFormsModel" "span" "[I", Cond.fieldLink RX12 29 "RoomFormsModel" "asks" "[I", Cond.fieldLink RX12 32 "RoomFormsModel" "piece" "[I", Cond.fieldLink RX12 35 "RoomFormsModel" "page" "[I", Cond.constant RX12 38 (45056), Cond.fieldLink RX12 39 "RoomFormsModel" "list" "[I", Cond.fieldLink RX12 42 "RoomFormsModel" "listMany" "[I", Cond.fieldLink RX12 45 "RoomFormsModel" "stackPlace" "[I", Cond.fieldLink RX12 48 "RoomFormsModel" "stackSpan" "[I", Cond.arrayClass .boolean, Cond.fieldLink RX12 51 "RoomFormsModel" "isGone" "[Z", Cond.fieldLink RX12 55 "RoomFormsModel" "quick" "[I", Cond.fieldLink RX12 58 "RoomFormsModel" "quickMany" "[I", Cond.fieldLink RX12 61 "RoomFormsModel" "room" "[J", Cond.constant RX12 65 (65536), Cond.fieldLink RX12 66 "RoomFormsModel" "slots" "[I"]
def wsL_law0_r7 : List Cond := [Cond.fieldLink RX12 69 "RoomFormsModel" "has" "[I", Cond.methodLink RL 54 yL_open, Cond.static yL_open, Cond.initialized RL, Cond.codeWith yL_open cL_open 4 (some .int) [(0, 6, 9, 13)], Cond.classLink RL 13 "java/lang/IllegalArgumentException", Cond.methodLink RL 7 yX11_open, Cond.instanceMethod yX11_open, Cond.selects RX11 yX11_open yX11_open, Cond.code yX11_open cX11_open 3 none, Cond.classLink RX11 59 "java/lang/IllegalArgumentException", Cond.initialized "java/lang/IllegalArgumentException", Cond.methodLink RX11 68 yX7_empty, Cond.instanceMethod yX7_empty, Cond.selects RX7 yX7_empty yX7_empty, Cond.code yX7_empty cX7_empty 2 none, Cond.methodLink RX7 49 Lib.Math.max.name, Cond.methodLink RX7 55 Lib.Math.min.name, Cond.static Lib.Math.min.name, Cond.code Lib.Math.min.name Lib.Math.min.code 2 (some .int), Cond.methodLink RX7 58 yJ7_fill_53178, Cond.static yJ7_fill_53178, Cond.initialized RJ7, Cond.code yJ7_fill_53178 cJ7_fill_53178 4 none]
def wsL_law0_r8 : List Cond := [Cond.methodLink RX11 72 ⟨"RoomForms$Form", "begin", "()V"⟩, Cond.sameMethod "RoomForms$Form" "RoomForms$Form" "begin" "()V", Cond.selects RX0 ⟨"RoomForms$Form", "begin", "()V"⟩ yX0_begin, Cond.instanceMethod yX0_begin, Cond.code yX0_begin cX0_begin 1 none, Cond.selects RX2 ⟨"RoomForms$Form", "begin", "()V"⟩ yX2_begin, Cond.instanceMethod yX2_begin, Cond.code yX2_begin cX2_begin 1 none, Cond.fieldLink RX2 15 "RoomForms$Grains" "room" "LRoomForms$Room;", Cond.sameField "RoomForms$Grains" "RoomForms$Form" "room" "LRoomForms$Room;", Cond.methodLink RX2 19 yX7_words, Cond.instanceMethod yX7_words, Cond.selects RX7 yX7_words yX7_words, Cond.code yX7_words cX7_words 1 (some .int), Cond.selects RX3 ⟨"RoomForms$Form", "begin", "()V"⟩ yX3_begin, Cond.instanceMethod yX3_begin, Cond.code yX3_begin cX3_begin 2 none, Cond.fieldLink RX3 19 "RoomForms$Halves" "room" "LRoomForms$Room;", Cond.sameField "RoomForms$Halves" "RoomForms$Form" "room" "LRoomForms$Room;", Cond.methodLink RX3 23 yX7_words, Cond.static yX11_powerFrom, Cond.code yX11_powerFrom cX11_powerFrom 2 (some .int), Cond.methodLink RX3 33 yJ7_fill_53178, Cond.selects RX4 ⟨"RoomForms$Form", "begin", "()V"⟩ yX4_begin]
def wsL_law0_r9 : List Cond := [Cond.instanceMethod yX4_begin, Cond.code yX4_begin cX4_begin 1 none, Cond.fieldLink RX4 24 "RoomForms$Levels" "room" "LRoomForms$Room;", Cond.sameField "RoomForms$Levels" "RoomForms$Form" "room" "LRoomForms$Room;", Cond.methodLink RX4 20 yX10_clear, Cond.instanceMethod yX10_clear, Cond.selects RX10 yX10_clear yX10_clear, Cond.code yX10_clear cX10_clear 1 none, Cond.methodLink RX4 28 yX7_words, Cond.methodLink RX4 34 yX10_add, Cond.instanceMethod yX10_add, Cond.selects RX10 yX10_add yX10_add, Cond.code yX10_add cX10_add 3 none, Cond.selects RX5 ⟨"RoomForms$Form", "begin", "()V"⟩ yX5_begin, Cond.instanceMethod yX5_begin, Cond.code yX5_begin cX5_begin 1 none, Cond.fieldLink RX5 22 "RoomForms$Pages" "room" "LRoomForms$Room;", Cond.sameField "RoomForms$Pages" "RoomForms$Form" "room" "LRoomForms$Room;", Cond.methodLink RX5 26 yX7_words, Cond.methodLink RX5 32 yJ7_fill_53178, Cond.selects RX6 ⟨"RoomForms$Form", "begin", "()V"⟩ yX6_begin, Cond.instanceMethod yX6_begin, Cond.code yX6_begin cX6_begin 1 none, Cond.methodLink RX6 20 yX10_clear]
def wsL_law0_r10 : List Cond := [Cond.selects RX9 ⟨"RoomForms$Form", "begin", "()V"⟩ yX9_begin, Cond.instanceMethod yX9_begin, Cond.code yX9_begin cX9_begin 1 none, Cond.methodLink RL 59 yX12_open, Cond.instanceMethod yX12_open, Cond.selects RX12 yX12_open yX12_open, Cond.code yX12_open cX12_open 4 none, Cond.fieldLink RX12 76 "RoomFormsModel" "words" "I", Cond.fieldLink RX12 79 "RoomFormsModel" "blocks" "I", Cond.fieldLink RX12 82 "RoomFormsModel" "numbers" "I", Cond.fieldLink RX12 85 "RoomFormsModel" "asked" "I", Cond.fieldLink RX12 88 "RoomFormsModel" "spans" "I", Cond.fieldLink RX12 91 "RoomFormsModel" "looked" "I", Cond.fieldLink RX12 94 "RoomFormsModel" "lastEnd" "I", Cond.fieldLink RX12 97 "RoomFormsModel" "top" "I", Cond.fieldLink RX12 100 "RoomFormsModel" "stacked" "I", Cond.fieldLink RX12 103 "RoomFormsModel" "whole" "I", Cond.fieldLink RX12 106 "RoomFormsModel" "pages" "I", Cond.methodLink RX12 72 yX12_fails, Cond.instanceMethod yX12_fails, Cond.selects RX12 yX12_fails yX12_fails, Cond.code yX12_fails cX12_fails 2 (some .boolean), Cond.fieldLink RX12 1 "RoomFormsModel" "thrown" "I", Cond.methodLink RX12 109 yX12_toList]
def wsL_law0_r11 : List Cond := [Cond.instanceMethod yX12_toList, Cond.selects RX12 yX12_toList yX12_toList, Cond.code yX12_toList cX12_toList 5 none, Cond.methodLink RX12 133 yX12_listOf, Cond.static yX12_listOf, Cond.code yX12_listOf cX12_listOf 2 (some .int), Cond.methodLink RL 60 yX12_thrown, Cond.instanceMethod yX12_thrown, Cond.selects RX12 yX12_thrown yX12_thrown, Cond.code yX12_thrown cX12_thrown 1 (some .int), Cond.methodLink RL 64 yL_give, Cond.static yL_give, Cond.codeWith yL_give cL_give 4 (some .int) [(0, 9, 12, 13), (0, 9, 15, 19), (0, 9, 18, 21)], Cond.classLink RL 19 "java/lang/IllegalStateException", Cond.classLink RL 21 "java/lang/IndexOutOfBoundsException", Cond.methodLink RL 15 yX11_give, Cond.instanceMethod yX11_give, Cond.selects RX11 yX11_give yX11_give, Cond.code yX11_give cX11_give 4 (some .int), Cond.classLink RX11 84 "java/lang/IndexOutOfBoundsException", Cond.initialized "java/lang/IndexOutOfBoundsException", Cond.methodLink RX11 77 yX11_needRoom, Cond.instanceMethod yX11_needRoom, Cond.selects RX11 yX11_needRoom yX11_needRoom]
def wsL_law0_r12 : List Cond := [Cond.code yX11_needRoom cX11_needRoom 1 none, Cond.classLink RX11 204 "java/lang/IllegalStateException", Cond.initialized "java/lang/IllegalStateException", Cond.methodLink RX11 80 yX7_blocks, Cond.instanceMethod yX7_blocks, Cond.selects RX7 yX7_blocks yX7_blocks, Cond.code yX7_blocks cX7_blocks 1 (some .int), Cond.methodLink RX11 89 ⟨"RoomForms$Form", "spanOf", "(I)I"⟩, Cond.sameMethod "RoomForms$Form" "RoomForms$Form" "spanOf" "(I)I", Cond.selects RX0 ⟨"RoomForms$Form", "spanOf", "(I)I"⟩ yX1_spanOf, Cond.instanceMethod yX1_spanOf, Cond.code yX1_spanOf cX1_spanOf 2 (some .int), Cond.instanceMethod ⟨"RoomForms$Form", "spanOf", "(I)I"⟩, Cond.selects RX2 ⟨"RoomForms$Form", "spanOf", "(I)I"⟩ yX2_spanOf, Cond.instanceMethod yX2_spanOf, Cond.code yX2_spanOf cX2_spanOf 2 (some .int), Cond.selects RX3 ⟨"RoomForms$Form", "spanOf", "(I)I"⟩ yX3_spanOf, Cond.instanceMethod yX3_spanOf, Cond.code yX3_spanOf cX3_spanOf 2 (some .int), Cond.selects RX4 ⟨"RoomForms$Form", "spanOf", "(I)I"⟩ yX1_spanOf, Cond.selects RX5 ⟨"RoomForms$Form", "spanOf", "(I)I"⟩ yX5_spanOf, Cond.instanceMethod yX5_spanOf, Cond.code yX5_spanOf cX5_spanOf 2 (some .int), Cond.selects RX6 ⟨"RoomForms$Form", "spanOf", "(I)I"⟩ yX1_spanOf]
def wsL_law0_r13 : List Cond := [Cond.selects RX9 ⟨"RoomForms$Form", "spanOf", "(I)I"⟩ yX1_spanOf, Cond.methodLink RX11 93 ⟨"RoomForms$Form", "take", "(I)I"⟩, Cond.sameMethod "RoomForms$Form" "RoomForms$Form" "take" "(I)I", Cond.selects RX0 ⟨"RoomForms$Form", "take", "(I)I"⟩ yX0_take, Cond.instanceMethod yX0_take, Cond.code yX0_take cX0_take 4 (some .int), Cond.fieldLink RX0 18 "RoomForms$Fits" "room" "LRoomForms$Room;", Cond.sameField "RoomForms$Fits" "RoomForms$Form" "room" "LRoomForms$Room;", Cond.methodLink RX0 22 yX7_listRuns, Cond.instanceMethod yX7_listRuns, Cond.selects RX7 yX7_listRuns yX7_listRuns, Cond.code yX7_listRuns cX7_listRuns 3 (some (.object "RoomForms$Stretches")), Cond.methodLink RX7 68 yX10_clear, Cond.methodLink RX7 71 yX7_isFree, Cond.instanceMethod yX7_isFree, Cond.selects RX7 yX7_isFree yX7_isFree, Cond.code yX7_isFree cX7_isFree 2 (some .boolean), Cond.methodLink RX7 75 yX10_add, Cond.methodLink RX0 28 yX10_find, Cond.instanceMethod yX10_find, Cond.selects RX10 yX10_find yX10_find, Cond.code yX10_find cX10_find 4 (some .int), Cond.methodLink RX10 37 yX10_nextFit, Cond.instanceMethod yX10_nextFit]
def wsL_law0_r14 : List Cond := [Cond.selects RX10 yX10_nextFit yX10_nextFit, Cond.code yX10_nextFit cX10_nextFit 6 (some .int), Cond.methodLink RX10 40 yX10_bestFit, Cond.instanceMethod yX10_bestFit, Cond.selects RX10 yX10_bestFit yX10_bestFit, Cond.code yX10_bestFit cX10_bestFit 4 (some .int), Cond.methodLink RX10 50 yX10_placeOf, Cond.instanceMethod yX10_placeOf, Cond.selects RX10 yX10_placeOf yX10_placeOf, Cond.code yX10_placeOf cX10_placeOf 2 (some .int), Cond.methodLink RX10 44 yX10_greatestFit, Cond.instanceMethod yX10_greatestFit, Cond.selects RX10 yX10_greatestFit yX10_greatestFit, Cond.code yX10_greatestFit cX10_greatestFit 4 (some .int), Cond.methodLink RX10 47 yX10_firstFit, Cond.instanceMethod yX10_firstFit, Cond.selects RX10 yX10_firstFit yX10_firstFit, Cond.code yX10_firstFit cX10_firstFit 3 (some .int), Cond.methodLink RX0 34 yX10_looked, Cond.instanceMethod yX10_looked, Cond.selects RX10 yX10_looked yX10_looked, Cond.code yX10_looked cX10_looked 1 (some .int), Cond.methodLink RX0 38 yX7_addLooked, Cond.instanceMethod yX7_addLooked]
def wsL_law0_r15 : List Cond := [Cond.selects RX7 yX7_addLooked yX7_addLooked, Cond.code yX7_addLooked cX7_addLooked 2 none, Cond.selects RX2 ⟨"RoomForms$Form", "take", "(I)I"⟩ yX2_take, Cond.instanceMethod yX2_take, Cond.code yX2_take cX2_take 5 (some .int), Cond.methodLink RX2 29 Lib.Math.min.name, Cond.methodLink RX2 35 yX7_addLooked, Cond.methodLink RX2 39 yX2_areFree, Cond.instanceMethod yX2_areFree, Cond.selects RX2 yX2_areFree yX2_areFree, Cond.code yX2_areFree cX2_areFree 4 (some .boolean), Cond.methodLink RX2 43 yX7_isFree, Cond.selects RX3 ⟨"RoomForms$Form", "take", "(I)I"⟩ yX3_take, Cond.instanceMethod yX3_take, Cond.code yX3_take cX3_take 4 (some .int), Cond.methodLink RX3 39 yX3_freeParts, Cond.instanceMethod yX3_freeParts, Cond.selects RX3 yX3_freeParts yX3_freeParts, Cond.code yX3_freeParts cX3_freeParts 3 (some .int), Cond.methodLink RX3 42 yX7_addLooked, Cond.methodLink RX3 46 yX3_smallestPiece, Cond.instanceMethod yX3_smallestPiece, Cond.selects RX3 yX3_smallestPiece yX3_smallestPiece, Cond.code yX3_smallestPiece cX3_smallestPiece 4 (some .int)]
def wsL_law0_r16 : List Cond := [Cond.selects RX4 ⟨"RoomForms$Form", "take", "(I)I"⟩ yX4_take, Cond.instanceMethod yX4_take, Cond.code yX4_take cX4_take 5 (some .int), Cond.methodLink RX4 38 yX4_findInListOf, Cond.instanceMethod yX4_findInListOf, Cond.selects RX4 yX4_findInListOf yX4_findInListOf, Cond.code yX4_findInListOf cX4_findInListOf 4 (some .int), Cond.methodLink RX4 42 yX4_listOf, Cond.static yX4_listOf, Cond.code yX4_listOf cX4_listOf 4 (some .int), Cond.methodLink RX4 57 yX10_size, Cond.instanceMethod yX10_size, Cond.selects RX10 yX10_size yX10_size, Cond.code yX10_size cX10_size 1 (some .int), Cond.methodLink RX4 51 yX10_wordsOf, Cond.instanceMethod yX10_wordsOf, Cond.selects RX10 yX10_wordsOf yX10_wordsOf, Cond.code yX10_wordsOf cX10_wordsOf 2 (some .int), Cond.methodLink RX4 60 yX7_addLooked, Cond.methodLink RX4 45 yX4_firstOfLaterList, Cond.instanceMethod yX4_firstOfLaterList, Cond.selects RX4 yX4_firstOfLaterList yX4_firstOfLaterList, Cond.code yX4_firstOfLaterList cX4_firstOfLaterList 6 (some .int), Cond.methodLink RX4 48 yX10_placeOf]
def wsL_law0_r17 : List Cond := [Cond.methodLink RX4 54 yX10_remove, Cond.instanceMethod yX10_remove, Cond.selects RX10 yX10_remove yX10_remove, Cond.code yX10_remove cX10_remove 2 none, Cond.methodLink RX10 31 arraycopyName, Cond.native arraycopyName, Cond.static arraycopyName, Cond.initialized "java/lang/System", Cond.selects RX5 ⟨"RoomForms$Form", "take", "(I)I"⟩ yX5_take, Cond.instanceMethod yX5_take, Cond.code yX5_take cX5_take 3 (some .int), Cond.methodLink RX5 42 yX5_takeRow, Cond.instanceMethod yX5_takeRow, Cond.selects RX5 yX5_takeRow yX5_takeRow, Cond.code yX5_takeRow cX5_takeRow 6 (some .int), Cond.methodLink RX5 49 yX7_addLooked, Cond.methodLink RX5 65 yX5_setPages, Cond.instanceMethod yX5_setPages, Cond.selects RX5 yX5_setPages yX5_setPages, Cond.code yX5_setPages cX5_setPages 5 none, Cond.methodLink RX5 60 Lib.Math.max.name, Cond.methodLink RX5 46 yX5_takeInPageOf, Cond.instanceMethod yX5_takeInPageOf, Cond.selects RX5 yX5_takeInPageOf yX5_takeInPageOf]
def wsL_law0_r18 : List Cond := [Cond.code yX5_takeInPageOf cX5_takeInPageOf 4 (some .int), Cond.methodLink RX5 53 yX5_freePlaceIn, Cond.instanceMethod yX5_freePlaceIn, Cond.selects RX5 yX5_freePlaceIn yX5_freePlaceIn, Cond.code yX5_freePlaceIn cX5_freePlaceIn 5 (some .int), Cond.methodLink RX5 56 yX7_isFree, Cond.selects RX6 ⟨"RoomForms$Form", "take", "(I)I"⟩ yX6_take, Cond.instanceMethod yX6_take, Cond.code yX6_take cX6_take 3 (some .int), Cond.methodLink RX6 24 yX6_takeQuick, Cond.instanceMethod yX6_takeQuick, Cond.selects RX6 yX6_takeQuick yX6_takeQuick, Cond.code yX6_takeQuick cX6_takeQuick 4 (some .int), Cond.methodLink RX6 34 yX10_size, Cond.methodLink RX6 38 yX10_wordsOf, Cond.methodLink RX6 41 yX10_placeOf, Cond.methodLink RX6 44 yX10_remove, Cond.methodLink RX6 28 yX6_takeFirst, Cond.instanceMethod yX6_takeFirst, Cond.selects RX6 yX6_takeFirst yX6_takeFirst, Cond.code yX6_takeFirst cX6_takeFirst 4 (some .int), Cond.fieldLink RX6 47 "RoomForms$Quick" "room" "LRoomForms$Room;", Cond.sameField "RoomForms$Quick" "RoomForms$Form" "room" "LRoomForms$Room;", Cond.methodLink RX6 51 yX7_listRuns]
def wsL_law0_r19 : List Cond := [Cond.methodLink RX6 57 yX10_find, Cond.methodLink RX6 61 yX10_looked, Cond.methodLink RX6 64 yX7_addLooked, Cond.methodLink RX6 31 yX6_emptyRows, Cond.instanceMethod yX6_emptyRows, Cond.selects RX6 yX6_emptyRows yX6_emptyRows, Cond.code yX6_emptyRows cX6_emptyRows 2 none, Cond.methodLink RX6 67 yX7_markFree, Cond.instanceMethod yX7_markFree, Cond.selects RX7 yX7_markFree yX7_markFree, Cond.code yX7_markFree cX7_markFree 3 none, Cond.methodLink RX7 64 yX7_mark, Cond.instanceMethod yX7_mark, Cond.selects RX7 yX7_mark yX7_mark, Cond.code yX7_mark cX7_mark 6 none, Cond.selects RX9 ⟨"RoomForms$Form", "take", "(I)I"⟩ yX9_take, Cond.instanceMethod yX9_take, Cond.code yX9_take cX9_take 3 (some .int), Cond.fieldLink RX9 15 "RoomForms$Stack" "room" "LRoomForms$Room;", Cond.sameField "RoomForms$Stack" "RoomForms$Form" "room" "LRoomForms$Room;", Cond.methodLink RX9 19 yX7_addLooked, Cond.methodLink RX9 25 yX7_words, Cond.methodLink RX11 96 yX7_settle, Cond.instanceMethod yX7_settle]
def wsL_law0_r20 : List Cond := [Cond.selects RX7 yX7_settle yX7_settle, Cond.code yX7_settle cX7_settle 5 (some .int), Cond.methodLink RL 67 yX12_give, Cond.instanceMethod yX12_give, Cond.selects RX12 yX12_give yX12_give, Cond.code yX12_give cX12_give 5 (some .int), Cond.fieldLink RX12 149 "RoomFormsModel" "newSpan" "I", Cond.methodLink RX12 172 yX12_find, Cond.instanceMethod yX12_find, Cond.selects RX12 yX12_find yX12_find, Cond.code yX12_find cX12_find 3 (some .int), Cond.methodLink RX12 142 yX12_firstRun, Cond.instanceMethod yX12_firstRun, Cond.selects RX12 yX12_firstRun yX12_firstRun, Cond.code yX12_firstRun cX12_firstRun 5 (some .int), Cond.fieldLink RX12 113 "RoomFormsModel" "runSize" "I", Cond.methodLink RX12 116 yX12_runFrom, Cond.instanceMethod yX12_runFrom, Cond.selects RX12 yX12_runFrom yX12_runFrom, Cond.code yX12_runFrom cX12_runFrom 4 (some .int), Cond.methodLink RX12 152 yX12_bestRun, Cond.instanceMethod yX12_bestRun, Cond.selects RX12 yX12_bestRun yX12_bestRun, Cond.code yX12_bestRun cX12_bestRun 5 (some .int)]
def wsL_law0_r21 : List Cond := [Cond.methodLink RX12 124 yX12_power, Cond.static yX12_power, Cond.code yX12_power cX12_power 2 (some .int), Cond.methodLink RX12 155 yX12_halves, Cond.instanceMethod yX12_halves, Cond.selects RX12 yX12_halves yX12_halves, Cond.code yX12_halves cX12_halves 4 (some .int), Cond.methodLink RX12 158 yX12_classes, Cond.instanceMethod yX12_classes, Cond.selects RX12 yX12_classes yX12_classes, Cond.code yX12_classes cX12_classes 4 (some .int), Cond.methodLink RX12 120 yX12_isFree, Cond.instanceMethod yX12_isFree, Cond.selects RX12 yX12_isFree yX12_isFree, Cond.code yX12_isFree cX12_isFree 4 (some .boolean), Cond.methodLink RX12 161 yX12_rowOfPages, Cond.instanceMethod yX12_rowOfPages, Cond.selects RX12 yX12_rowOfPages yX12_rowOfPages, Cond.code yX12_rowOfPages cX12_rowOfPages 5 (some .int), Cond.methodLink RX12 164 yX12_bits, Cond.instanceMethod yX12_bits, Cond.selects RX12 yX12_bits yX12_bits, Cond.code yX12_bits cX12_bits 4 (some .int), Cond.methodLink RX12 127 Lib.Math.min.name]
def wsL_law0_r22 : List Cond := [Cond.methodLink RX12 167 yX12_levels, Cond.instanceMethod yX12_levels, Cond.selects RX12 yX12_levels yX12_levels, Cond.code yX12_levels cX12_levels 5 (some .int), Cond.methodLink RX12 136 yX12_sizeAt, Cond.instanceMethod yX12_sizeAt, Cond.selects RX12 yX12_sizeAt yX12_sizeAt, Cond.code yX12_sizeAt cX12_sizeAt 3 (some .int), Cond.methodLink RX12 139 yX12_fromList, Cond.instanceMethod yX12_fromList, Cond.selects RX12 yX12_fromList yX12_fromList, Cond.code yX12_fromList cX12_fromList 5 none, Cond.methodLink RX12 170 yX12_quick, Cond.instanceMethod yX12_quick, Cond.selects RX12 yX12_quick yX12_quick, Cond.code yX12_quick cX12_quick 4 (some .int), Cond.methodLink RX12 146 yX12_emptyQuick, Cond.instanceMethod yX12_emptyQuick, Cond.selects RX12 yX12_emptyQuick yX12_emptyQuick, Cond.code yX12_emptyQuick cX12_emptyQuick 4 none, Cond.methodLink RX12 175 yX12_isUsed, Cond.instanceMethod yX12_isUsed, Cond.selects RX12 yX12_isUsed yX12_isUsed, Cond.code yX12_isUsed cX12_isUsed 2 (some .boolean)]
def wsL_law0_r23 : List Cond := [Cond.methodLink RX12 178 yX12_isThere, Cond.instanceMethod yX12_isThere, Cond.selects RX12 yX12_isThere yX12_isThere, Cond.code yX12_isThere cX12_isThere 2 (some .boolean), Cond.methodLink RL 68 yL_back, Cond.static yL_back, Cond.codeWith yL_back cL_back 4 (some .int) [(0, 9, 12, 19), (0, 9, 15, 26)], Cond.classLink RL 26 "java/util/NoSuchElementException", Cond.methodLink RL 23 yX11_back, Cond.instanceMethod yX11_back, Cond.selects RX11 yX11_back yX11_back, Cond.code yX11_back cX11_back 5 (some .int), Cond.methodLink RX11 100 yX11_needBlock, Cond.instanceMethod yX11_needBlock, Cond.selects RX11 yX11_needBlock yX11_needBlock, Cond.code yX11_needBlock cX11_needBlock 3 (some .int), Cond.classLink RX11 212 "java/util/NoSuchElementException", Cond.initialized "java/util/NoSuchElementException", Cond.methodLink RX11 209 yX7_slotOf, Cond.instanceMethod yX7_slotOf, Cond.selects RX7 yX7_slotOf yX7_slotOf, Cond.code yX7_slotOf cX7_slotOf 3 (some .int), Cond.methodLink RX11 103 yX7_placeOf, Cond.instanceMethod yX7_placeOf]
def wsL_law0_r24 : List Cond := [Cond.selects RX7 yX7_placeOf yX7_placeOf, Cond.code yX7_placeOf cX7_placeOf 2 (some .int), Cond.methodLink RX11 106 yX7_spanOf, Cond.instanceMethod yX7_spanOf, Cond.selects RX7 yX7_spanOf yX7_spanOf, Cond.code yX7_spanOf cX7_spanOf 2 (some .int), Cond.methodLink RX11 107 yX7_remove, Cond.instanceMethod yX7_remove, Cond.selects RX7 yX7_remove yX7_remove, Cond.code yX7_remove cX7_remove 2 none, Cond.methodLink RX11 110 ⟨"RoomForms$Form", "takeBack", "(II)V"⟩, Cond.sameMethod "RoomForms$Form" "RoomForms$Form" "takeBack" "(II)V", Cond.selects RX0 ⟨"RoomForms$Form", "takeBack", "(II)V"⟩ yX0_takeBack, Cond.instanceMethod yX0_takeBack, Cond.code yX0_takeBack cX0_takeBack 3 none, Cond.selects RX2 ⟨"RoomForms$Form", "takeBack", "(II)V"⟩ yX2_takeBack, Cond.instanceMethod yX2_takeBack, Cond.code yX2_takeBack cX2_takeBack 3 none, Cond.selects RX3 ⟨"RoomForms$Form", "takeBack", "(II)V"⟩ yX3_takeBack, Cond.instanceMethod yX3_takeBack, Cond.code yX3_takeBack cX3_takeBack 6 none, Cond.methodLink RX3 49 Lib.Math.min.name, Cond.selects RX4 ⟨"RoomForms$Form", "takeBack", "(II)V"⟩ yX4_takeBack, Cond.instanceMethod yX4_takeBack]
def wsL_law0_r25 : List Cond := [Cond.code yX4_takeBack cX4_takeBack 6 none, Cond.methodLink RX4 63 yX10_endOf, Cond.instanceMethod yX10_endOf, Cond.selects RX10 yX10_endOf yX10_endOf, Cond.code yX10_endOf cX10_endOf 2 (some .int), Cond.selects RX5 ⟨"RoomForms$Form", "takeBack", "(II)V"⟩ yX5_takeBack, Cond.instanceMethod yX5_takeBack, Cond.code yX5_takeBack cX5_takeBack 4 none, Cond.selects RX6 ⟨"RoomForms$Form", "takeBack", "(II)V"⟩ yX6_takeBack, Cond.instanceMethod yX6_takeBack, Cond.code yX6_takeBack cX6_takeBack 3 none, Cond.methodLink RX6 71 yX10_add, Cond.methodLink RX6 74 yX7_markQuick, Cond.instanceMethod yX7_markQuick, Cond.selects RX7 yX7_markQuick yX7_markQuick, Cond.code yX7_markQuick cX7_markQuick 3 none, Cond.selects RX9 ⟨"RoomForms$Form", "takeBack", "(II)V"⟩ yX9_takeBack, Cond.instanceMethod yX9_takeBack, Cond.code yX9_takeBack cX9_takeBack 3 none, Cond.methodLink RX9 29 yX7_isFree, Cond.methodLink RL 70 yX12_back, Cond.instanceMethod yX12_back, Cond.selects RX12 yX12_back yX12_back, Cond.code yX12_back cX12_back 7 (some .int)]
def wsL_law0_r26 : List Cond := [Cond.methodLink RX12 181 yX12_blockOf, Cond.instanceMethod yX12_blockOf, Cond.selects RX12 yX12_blockOf yX12_blockOf, Cond.code yX12_blockOf cX12_blockOf 3 (some .int), Cond.methodLink RX12 184 yX12_join, Cond.instanceMethod yX12_join, Cond.selects RX12 yX12_join yX12_join, Cond.code yX12_join cX12_join 7 none, Cond.methodLink RX12 187 yX12_freePages, Cond.instanceMethod yX12_freePages, Cond.selects RX12 yX12_freePages yX12_freePages, Cond.code yX12_freePages cX12_freePages 4 none, Cond.methodLink RX12 190 yX12_joinRuns, Cond.instanceMethod yX12_joinRuns, Cond.selects RX12 yX12_joinRuns yX12_joinRuns, Cond.code yX12_joinRuns cX12_joinRuns 5 none, Cond.methodLink RX12 193 yX12_sink, Cond.instanceMethod yX12_sink, Cond.selects RX12 yX12_sink yX12_sink, Cond.code yX12_sink cX12_sink 3 none, Cond.methodLink RL 71 yL_about, Cond.static yL_about, Cond.codeWith yL_about cL_about 5 (some .int) [(0, 10, 13, 13), (0, 10, 17, 19), (0, 10, 21, 26)], Cond.methodLink RL 28 yX11_about]
def wsL_law0_r27 : List Cond := [Cond.instanceMethod yX11_about, Cond.selects RX11 yX11_about yX11_about, Cond.code yX11_about cX11_about 4 (some .int), Cond.methodLink RX11 116 yX7_askedOf, Cond.instanceMethod yX7_askedOf, Cond.selects RX7 yX7_askedOf yX7_askedOf, Cond.code yX7_askedOf cX7_askedOf 2 (some .int), Cond.methodLink RL 74 yX12_about, Cond.instanceMethod yX12_about, Cond.selects RX12 yX12_about yX12_about, Cond.code yX12_about cX12_about 4 (some .int), Cond.methodLink RL 75 yL_at, Cond.static yL_at, Cond.codeWith yL_at cL_at 4 (some .int) [(0, 9, 12, 13), (0, 9, 15, 19)], Cond.methodLink RL 32 yX11_at, Cond.instanceMethod yX11_at, Cond.selects RX11 yX11_at yX11_at, Cond.code yX11_at cX11_at 3 (some .int), Cond.methodLink RX11 119 yX7_words, Cond.methodLink RX11 124 yX7_blockAt, Cond.instanceMethod yX7_blockAt, Cond.selects RX7 yX7_blockAt yX7_blockAt, Cond.code yX7_blockAt cX7_blockAt 2 (some .int), Cond.methodLink RL 77 yX12_at]
def wsL_law0_r28 : List Cond := [Cond.instanceMethod yX12_at, Cond.selects RX12 yX12_at yX12_at, Cond.code yX12_at cX12_at 2 (some .int), Cond.methodLink RL 78 yL_run, Cond.static yL_run, Cond.codeWith yL_run cL_run 5 (some .int) [(0, 10, 13, 13), (0, 10, 17, 19), (0, 10, 21, 21)], Cond.methodLink RL 35 yX11_run, Cond.instanceMethod yX11_run, Cond.selects RX11 yX11_run yX11_run, Cond.code yX11_run cX11_run 4 (some .int), Cond.methodLink RX11 129 yX7_listRuns, Cond.methodLink RX11 133 yX10_size, Cond.methodLink RX11 140 yX10_placeOf, Cond.methodLink RX11 141 yX10_wordsOf, Cond.methodLink RL 80 yX12_run, Cond.instanceMethod yX12_run, Cond.selects RX12 yX12_run yX12_run, Cond.code yX12_run cX12_run 5 (some .int), Cond.methodLink RL 81 yL_list, Cond.static yL_list, Cond.codeWith yL_list cL_list 5 (some .int) [(0, 10, 13, 13), (0, 10, 17, 19), (0, 10, 21, 41), (0, 10, 25, 21)], Cond.classLink RL 41 "java/lang/UnsupportedOperationException", Cond.methodLink RL 38 yX11_list, Cond.instanceMethod yX11_list]
def wsL_law0_r29 : List Cond := [Cond.selects RX11 yX11_list yX11_list, Cond.code yX11_list cX11_list 4 (some .int), Cond.classLink RX11 146 "java/lang/UnsupportedOperationException", Cond.initialized "java/lang/UnsupportedOperationException", Cond.methodLink RX11 151 ⟨"RoomForms$Form", "placeInList", "(II)I"⟩, Cond.sameMethod "RoomForms$Form" "RoomForms$Form" "placeInList" "(II)I", Cond.selects RX0 ⟨"RoomForms$Form", "placeInList", "(II)I"⟩ yX1_placeInList, Cond.instanceMethod yX1_placeInList, Cond.code yX1_placeInList cX1_placeInList 3 (some .int), Cond.selects RX2 ⟨"RoomForms$Form", "placeInList", "(II)I"⟩ yX1_placeInList, Cond.selects RX3 ⟨"RoomForms$Form", "placeInList", "(II)I"⟩ yX1_placeInList, Cond.instanceMethod ⟨"RoomForms$Form", "placeInList", "(II)I"⟩, Cond.selects RX4 ⟨"RoomForms$Form", "placeInList", "(II)I"⟩ yX4_placeInList, Cond.instanceMethod yX4_placeInList, Cond.code yX4_placeInList cX4_placeInList 5 (some .int), Cond.selects RX5 ⟨"RoomForms$Form", "placeInList", "(II)I"⟩ yX1_placeInList, Cond.selects RX6 ⟨"RoomForms$Form", "placeInList", "(II)I"⟩ yX1_placeInList, Cond.selects RX9 ⟨"RoomForms$Form", "placeInList", "(II)I"⟩ yX1_placeInList, Cond.methodLink RL 83 yX12_list, Cond.instanceMethod yX12_list, Cond.selects RX12 yX12_list yX12_list, Cond.code yX12_list cX12_list 3 (some .int), Cond.methodLink RL 84 yL_worst, Cond.static yL_worst]
def wsL_law0_r30 : List Cond := [Cond.codeWith yL_worst cL_worst 6 (some .int) [(0, 12, 15, 13)], Cond.methodLink RL 43 yX11_worst, Cond.instanceMethod yX11_worst, Cond.selects RX11 yX11_worst yX11_worst, Cond.code yX11_worst cX11_worst 4 (some .int), Cond.classLink RX11 163 RX8, Cond.instantiable RX8 9, Cond.initialized RX8, Cond.instanceMethod yX8_init, Cond.code yX8_init cX8_init 1 none, Cond.methodLink RX8 5 objectInit, Cond.fieldLink RX8 11 "RoomForms$Search" "rooms" "[I", Cond.constant RX8 15 (32768), Cond.fieldLink RX8 16 "RoomForms$Search" "slots" "[I", Cond.classLink RX8 19 RX10, Cond.fieldLink RX8 24 "RoomForms$Search" "runs" "LRoomForms$Stretches;", Cond.fieldLink RX8 28 "RoomForms$Search" "base" "I", Cond.fieldLink RX8 32 "RoomForms$Search" "met" "I", Cond.fieldLink RX8 35 "RoomForms$Search" "form" "I", Cond.fieldLink RX8 38 "RoomForms$Search" "most" "I", Cond.fieldLink RX8 41 "RoomForms$Search" "live" "I", Cond.fieldLink RX8 44 "RoomForms$Search" "words" "I", Cond.methodLink RX8 21 yX10_init, Cond.methodLink RX11 166 yX8_leastWords]
def wsL_law0_r31 : List Cond := [Cond.instanceMethod yX8_leastWords, Cond.selects RX8 yX8_leastWords yX8_leastWords, Cond.code yX8_leastWords cX8_leastWords 6 (some .int), Cond.methodLink RX8 47 yX8_lookAtAll, Cond.instanceMethod yX8_lookAtAll, Cond.selects RX8 yX8_lookAtAll yX8_lookAtAll, Cond.code yX8_lookAtAll cX8_lookAtAll 3 (some .int), Cond.methodLink RX8 51 yX8_meet, Cond.instanceMethod yX8_meet, Cond.selects RX8 yX8_meet yX8_meet, Cond.code yX8_meet cX8_meet 8 (some .boolean), Cond.constant RX8 93 (-1640531535), Cond.methodLink RX8 94 yX8_addRoom, Cond.instanceMethod yX8_addRoom, Cond.selects RX8 yX8_addRoom yX8_addRoom, Cond.code yX8_addRoom cX8_addRoom 3 (some .boolean), Cond.methodLink RX8 55 yX8_lookAt, Cond.instanceMethod yX8_lookAt, Cond.selects RX8 yX8_lookAt yX8_lookAt, Cond.code yX8_lookAt cX8_lookAt 6 (some .int), Cond.methodLink RX8 59 yX8_askAll, Cond.instanceMethod yX8_askAll, Cond.selects RX8 yX8_askAll yX8_askAll, Cond.code yX8_askAll cX8_askAll 9 (some .int)]
def wsL_law0_r32 : List Cond := [Cond.methodLink RX8 74 Lib.Math.min.name, Cond.methodLink RX8 66 yX8_listRuns, Cond.instanceMethod yX8_listRuns, Cond.selects RX8 yX8_listRuns yX8_listRuns, Cond.code yX8_listRuns cX8_listRuns 4 none, Cond.methodLink RX8 86 yX10_clear, Cond.methodLink RX8 89 yX10_add, Cond.methodLink RX8 69 yJ6_bitCount_0f7a4, Cond.static yJ6_bitCount_0f7a4, Cond.initialized RJ6, Cond.code yJ6_bitCount_0f7a4 cJ6_bitCount_0f7a4 1 (some .int), Cond.constant RJ6 265 (1431655765), Cond.constant RJ6 266 (858993459), Cond.constant RJ6 267 (252645135), Cond.methodLink RX8 80 yX10_find, Cond.methodLink RX8 63 yX8_giveAllBack, Cond.instanceMethod yX8_giveAllBack, Cond.selects RX8 yX8_giveAllBack yX8_giveAllBack, Cond.code yX8_giveAllBack cX8_giveAllBack 6 (some .int), Cond.methodLink RX8 83 yX8_blockFrom, Cond.instanceMethod yX8_blockFrom, Cond.selects RX8 yX8_blockFrom yX8_blockFrom, Cond.code yX8_blockFrom cX8_blockFrom 7 (some .int), Cond.methodLink RL 87 yX12_worst]
def wsL_law0_r33 : List Cond := [Cond.instanceMethod yX12_worst, Cond.selects RX12 yX12_worst yX12_worst, Cond.code yX12_worst cX12_worst 6 (some .int), Cond.methodLink RX12 237 yX12_holds, Cond.instanceMethod yX12_holds, Cond.selects RX12 yX12_holds yX12_holds, Cond.code yX12_holds cX12_holds 10 (some .int), Cond.fieldLink RX12 223 "RoomFormsModel" "rooms" "I", Cond.fieldLink RX12 207 "RoomFormsModel" "roomWords" "I", Cond.fieldLink RX12 199 "RoomFormsModel" "roomEnd" "I", Cond.fieldLink RX12 202 "RoomFormsModel" "roomAsked" "I", Cond.methodLink RX12 226 yX12_come, Cond.instanceMethod yX12_come, Cond.selects RX12 yX12_come yX12_come, Cond.code yX12_come cX12_come 4 (some .boolean), Cond.constantLong RX12 220 (65536), Cond.constant RX12 222 (65535), Cond.methodLink RX12 216 yX12_roomNumber, Cond.instanceMethod yX12_roomNumber, Cond.selects RX12 yX12_roomNumber yX12_roomNumber, Cond.code yX12_roomNumber cX12_roomNumber 4 (some .long), Cond.constantLong RX12 205 (15), Cond.constantLong RX12 197 (16), Cond.methodLink RX12 230 yX12_take]
def wsL_law0_r34 : List Cond := [Cond.instanceMethod yX12_take, Cond.selects RX12 yX12_take yX12_take, Cond.code yX12_take cX12_take 6 none, Cond.methodLink RX12 234 yX12_placeIn, Cond.instanceMethod yX12_placeIn, Cond.selects RX12 yX12_placeIn yX12_placeIn, Cond.code yX12_placeIn cX12_placeIn 7 (some .int), Cond.methodLink RX12 210 yX12_fitFrom, Cond.instanceMethod yX12_fitFrom, Cond.selects RX12 yX12_fitFrom yX12_fitFrom, Cond.code yX12_fitFrom cX12_fitFrom 6 (some .int), Cond.methodLink RX12 213 yX12_freeAt, Cond.instanceMethod yX12_freeAt, Cond.selects RX12 yX12_freeAt yX12_freeAt, Cond.code yX12_freeAt cX12_freeAt 3 (some .int), Cond.methodLink RL 88 yL_count, Cond.static yL_count, Cond.codeWith yL_count cL_count 4 (some .int) [(0, 9, 12, 13)], Cond.methodLink RL 47 yX11_count, Cond.instanceMethod yX11_count, Cond.selects RX11 yX11_count yX11_count, Cond.code yX11_count cX11_count 2 (some .int), Cond.methodLink RX11 171 yX8_met, Cond.instanceMethod yX8_met]
def wsL_law0_r35 : List Cond := [Cond.selects RX8 yX8_met yX8_met, Cond.code yX8_met cX8_met 1 (some .int), Cond.methodLink RX11 174 yX11_countInRoom, Cond.instanceMethod yX11_countInRoom, Cond.selects RX11 yX11_countInRoom yX11_countInRoom, Cond.code yX11_countInRoom cX11_countInRoom 2 (some .int), Cond.methodLink RX11 180 yX7_given, Cond.instanceMethod yX7_given, Cond.selects RX7 yX7_given yX7_given, Cond.code yX7_given cX7_given 1 (some .int), Cond.methodLink RX11 183 yX7_askedTogether, Cond.instanceMethod yX7_askedTogether, Cond.selects RX7 yX7_askedTogether yX7_askedTogether, Cond.code yX7_askedTogether cX7_askedTogether 3 (some .int), Cond.methodLink RX11 186 yX7_spansTogether, Cond.instanceMethod yX7_spansTogether, Cond.selects RX7 yX7_spansTogether yX7_spansTogether, Cond.code yX7_spansTogether cX7_spansTogether 3 (some .int), Cond.methodLink RX11 189 yX10_mostWords, Cond.instanceMethod yX10_mostWords, Cond.selects RX10 yX10_mostWords yX10_mostWords, Cond.code yX10_mostWords cX10_mostWords 3 (some .int), Cond.methodLink RX11 192 yX7_looked, Cond.instanceMethod yX7_looked]
def wsL_law0_r36 : List Cond := [Cond.selects RX7 yX7_looked yX7_looked, Cond.code yX7_looked cX7_looked 1 (some .int), Cond.methodLink RX11 177 yX11_countInForm, Cond.instanceMethod yX11_countInForm, Cond.selects RX11 yX11_countInForm yX11_countInForm, Cond.code yX11_countInForm cX11_countInForm 2 (some .int), Cond.methodLink RX11 195 ⟨"RoomForms$Form", "quickOnes", "()I"⟩, Cond.sameMethod "RoomForms$Form" "RoomForms$Form" "quickOnes" "()I", Cond.selects RX0 ⟨"RoomForms$Form", "quickOnes", "()I"⟩ yX1_quickOnes, Cond.instanceMethod yX1_quickOnes, Cond.code yX1_quickOnes cX1_quickOnes 1 (some .int), Cond.selects RX2 ⟨"RoomForms$Form", "quickOnes", "()I"⟩ yX1_quickOnes, Cond.selects RX3 ⟨"RoomForms$Form", "quickOnes", "()I"⟩ yX1_quickOnes, Cond.selects RX4 ⟨"RoomForms$Form", "quickOnes", "()I"⟩ yX1_quickOnes, Cond.selects RX5 ⟨"RoomForms$Form", "quickOnes", "()I"⟩ yX1_quickOnes, Cond.instanceMethod ⟨"RoomForms$Form", "quickOnes", "()I"⟩, Cond.selects RX6 ⟨"RoomForms$Form", "quickOnes", "()I"⟩ yX6_quickOnes, Cond.instanceMethod yX6_quickOnes, Cond.code yX6_quickOnes cX6_quickOnes 1 (some .int), Cond.selects RX9 ⟨"RoomForms$Form", "quickOnes", "()I"⟩ yX1_quickOnes, Cond.methodLink RX11 198 ⟨"RoomForms$Form", "freeParts", "()I"⟩, Cond.sameMethod "RoomForms$Form" "RoomForms$Form" "freeParts" "()I", Cond.selects RX0 ⟨"RoomForms$Form", "freeParts", "()I"⟩ yX1_freeParts, Cond.instanceMethod yX1_freeParts]
def wsL_law0_r37 : List Cond := [Cond.code yX1_freeParts cX1_freeParts 1 (some .int), Cond.selects RX2 ⟨"RoomForms$Form", "freeParts", "()I"⟩ yX1_freeParts, Cond.instanceMethod ⟨"RoomForms$Form", "freeParts", "()I"⟩, Cond.selects RX3 ⟨"RoomForms$Form", "freeParts", "()I"⟩ yX3_freeParts, Cond.selects RX4 ⟨"RoomForms$Form", "freeParts", "()I"⟩ yX1_freeParts, Cond.selects RX5 ⟨"RoomForms$Form", "freeParts", "()I"⟩ yX5_freeParts, Cond.instanceMethod yX5_freeParts, Cond.code yX5_freeParts cX5_freeParts 3 (some .int), Cond.selects RX6 ⟨"RoomForms$Form", "freeParts", "()I"⟩ yX1_freeParts, Cond.selects RX9 ⟨"RoomForms$Form", "freeParts", "()I"⟩ yX1_freeParts, Cond.methodLink RX11 201 ⟨"RoomForms$Form", "top", "()I"⟩, Cond.sameMethod "RoomForms$Form" "RoomForms$Form" "top" "()I", Cond.selects RX0 ⟨"RoomForms$Form", "top", "()I"⟩ yX1_top, Cond.instanceMethod yX1_top, Cond.code yX1_top cX1_top 1 (some .int), Cond.selects RX2 ⟨"RoomForms$Form", "top", "()I"⟩ yX1_top, Cond.selects RX3 ⟨"RoomForms$Form", "top", "()I"⟩ yX1_top, Cond.selects RX4 ⟨"RoomForms$Form", "top", "()I"⟩ yX1_top, Cond.selects RX5 ⟨"RoomForms$Form", "top", "()I"⟩ yX1_top, Cond.selects RX6 ⟨"RoomForms$Form", "top", "()I"⟩ yX1_top, Cond.instanceMethod ⟨"RoomForms$Form", "top", "()I"⟩, Cond.selects RX9 ⟨"RoomForms$Form", "top", "()I"⟩ yX9_top, Cond.instanceMethod yX9_top, Cond.code yX9_top cX9_top 1 (some .int)]
def wsL_law0_r38 : List Cond := [Cond.methodLink RL 90 yX12_count, Cond.instanceMethod yX12_count, Cond.selects RX12 yX12_count yX12_count, Cond.code yX12_count cX12_count 4 (some .int)]
def wsL_law0 : List Cond := (wsL_law0_r1 ++ (wsL_law0_r2 ++ (wsL_law0_r3 ++ (wsL_law0_r4 ++ (wsL_law0_r5 ++ (wsL_law0_r6 ++ (wsL_law0_r7 ++ (wsL_law0_r8 ++ (wsL_law0_r9 ++ (wsL_law0_r10 ++ (wsL_law0_r11 ++ (wsL_law0_r12 ++ (wsL_law0_r13 ++ (wsL_law0_r14 ++ (wsL_law0_r15 ++ (wsL_law0_r16 ++ (wsL_law0_r17 ++ (wsL_law0_r18 ++ (wsL_law0_r19 ++ (wsL_law0_r20 ++ (wsL_law0_r21 ++ (wsL_law0_r22 ++ (wsL_law0_r23 ++ (wsL_law0_r24 ++ (wsL_law0_r25 ++ (wsL_law0_r26 ++ (wsL_law0_r27 ++ (wsL_law0_r28 ++ (wsL_law0_r29 ++ (wsL_law0_r30 ++ (wsL_law0_r31 ++ (wsL_law0_r32 ++ (wsL_law0_r33 ++ (wsL_law0_r34 ++ (wsL_law0_r35 ++ (wsL_law0_r36 ++ (wsL_law0_r37 ++ wsL_law0_r38))))))))))))))))))))))))))))))))))))) ++ wsX110 ++ wsX120 ++ wsX70 ++ wsX00 ++ wsX30 ++ wsX50 ++ wsX20 ++ wsX40 ++ wsX90 ++ wsX60 ++ wsX100 ++ wsX80 ++ ([] : List Cond)
def wsL_law : List Cond := wsL_law0 ++ (vx_atS RX11 63 "java/lang/IllegalArgumentException" ["java/lang/RuntimeException", "java/lang/Exception"]).filter goodWord ++ (vx_atS RX11 88 "java/lang/IndexOutOfBoundsException" ["java/lang/RuntimeException", "java/lang/Exception"]).filter goodWord ++ (vx_atS RX11 208 "java/lang/IllegalStateException" ["java/lang/RuntimeException", "java/lang/Exception"]).filter goodWord ++ (zz_atN RX11 216 "java/util/NoSuchElementException" "java/lang/RuntimeException" ["java/lang/Exception"]).filter goodWord ++ (vx_atS RX11 150 "java/lang/UnsupportedOperationException" ["java/lang/RuntimeException", "java/lang/Exception"]).filter goodWord
set_option maxRecDepth 20000 in
theorem wsL_law_i1 : ∀ w ∈ wsL_law0_r1, w ∈ lw_tbl := fun w h => (goodIn_p wsL_law0_r1 [89, 92] (by decide +kernel) (by decide +kernel) w h).1
set_option maxRecDepth 20000 in
theorem wsL_law_i2 : ∀ w ∈ wsL_law0_r2, w ∈ lw_tbl := fun w h => (goodIn_p wsL_law0_r2 [97] (by decide +kernel) (by decide +kernel) w h).1
set_option maxRecDepth 20000 in
theorem wsL_law_i3 : ∀ w ∈ wsL_law0_r3, w ∈ lw_tbl := fun w h => (goodIn_p wsL_law0_r3 [103, 107] (by decide +kernel) (by decide +kernel) w h).1
set_option maxRecDepth 20000 in
theorem wsL_law_i4 : ∀ w ∈ wsL_law0_r4, w ∈ lw_tbl := fun w h => (goodIn_p wsL_law0_r4 [159, 162, 192, 206] (by decide +kernel) (by decide +kernel) w h).1
set_option maxRecDepth 20000 in
theorem wsL_law_i5 : ∀ w ∈ wsL_law0_r5, w ∈ lw_tbl := fun w h => (goodIn_p wsL_law0_r5 [223, 234, 247, 258] (by decide +kernel) (by decide +kernel) w h).1
set_option maxRecDepth 20000 in
theorem wsL_law_i6 : ∀ w ∈ wsL_law0_r6, w ∈ lw_tbl := fun w h => (goodIn_p wsL_law0_r6 [987] (by decide +kernel) (by decide +kernel) w h).1
set_option maxRecDepth 20000 in
theorem wsL_law_i7 : ∀ w ∈ wsL_law0_r7, w ∈ lw_tbl := fun w h => (goodIn_p wsL_law0_r7 [290, 365, 369, 372] (by decide +kernel) (by decide +kernel) w h).1
set_option maxRecDepth 20000 in
theorem wsL_law_i8 : ∀ w ∈ wsL_law0_r8, w ∈ lw_tbl := fun w h => (goodIn_p wsL_law0_r8 [378, 381, 385, 388, 392] (by decide +kernel) (by decide +kernel) w h).1
set_option maxRecDepth 20000 in
theorem wsL_law_i9 : ∀ w ∈ wsL_law0_r9, w ∈ lw_tbl := fun w h => (goodIn_p wsL_law0_r9 [396, 400, 405, 408, 413] (by decide +kernel) (by decide +kernel) w h).1
set_option maxRecDepth 20000 in
theorem wsL_law_i10 : ∀ w ∈ wsL_law0_r10, w ∈ lw_tbl := fun w h => (goodIn_p wsL_law0_r10 [417, 1105, 1109] (by decide +kernel) (by decide +kernel) w h).1
set_option maxRecDepth 20000 in
theorem wsL_law_i11 : ∀ w ∈ wsL_law0_r11, w ∈ lw_tbl := fun w h => (goodIn_p wsL_law0_r11 [1113, 1116, 982, 426] (by decide +kernel) (by decide +kernel) w h).1
set_option maxRecDepth 20000 in
theorem wsL_law_i12 : ∀ w ∈ wsL_law0_r12, w ∈ lw_tbl := fun w h => (goodIn_p wsL_law0_r12 [431, 451, 485, 474, 477, 481] (by decide +kernel) (by decide +kernel) w h).1
set_option maxRecDepth 20000 in
theorem wsL_law_i13 : ∀ w ∈ wsL_law0_r13, w ∈ lw_tbl := fun w h => (goodIn_p wsL_law0_r13 [491, 495, 500, 505] (by decide +kernel) (by decide +kernel) w h).1
set_option maxRecDepth 20000 in
theorem wsL_law_i14 : ∀ w ∈ wsL_law0_r14, w ∈ lw_tbl := fun w h => (goodIn_p wsL_law0_r14 [509, 513, 517, 521, 525, 529] (by decide +kernel) (by decide +kernel) w h).1
set_option maxRecDepth 20000 in
theorem wsL_law_i15 : ∀ w ∈ wsL_law0_r15, w ∈ lw_tbl := fun w h => (goodIn_p wsL_law0_r15 [533, 536, 543, 547, 551, 556] (by decide +kernel) (by decide +kernel) w h).1
set_option maxRecDepth 20000 in
theorem wsL_law_i16 : ∀ w ∈ wsL_law0_r16, w ∈ lw_tbl := fun w h => (goodIn_p wsL_law0_r16 [559, 563, 566, 570, 574, 579] (by decide +kernel) (by decide +kernel) w h).1
set_option maxRecDepth 20000 in
theorem wsL_law_i17 : ∀ w ∈ wsL_law0_r17, w ∈ lw_tbl := fun w h => (goodIn_p wsL_law0_r17 [584, 590, 594, 599] (by decide +kernel) (by decide +kernel) w h).1
set_option maxRecDepth 20000 in
theorem wsL_law_i18 : ∀ w ∈ wsL_law0_r18, w ∈ lw_tbl := fun w h => (goodIn_p wsL_law0_r18 [604, 608, 612, 616, 624] (by decide +kernel) (by decide +kernel) w h).1
set_option maxRecDepth 20000 in
theorem wsL_law_i19 : ∀ w ∈ wsL_law0_r19, w ∈ lw_tbl := fun w h => (goodIn_p wsL_law0_r19 [632, 636, 640, 643] (by decide +kernel) (by decide +kernel) w h).1
set_option maxRecDepth 20000 in
theorem wsL_law_i20 : ∀ w ∈ wsL_law0_r20, w ∈ lw_tbl := fun w h => (goodIn_p wsL_law0_r20 [649, 1120, 1124, 1128, 1132, 1136] (by decide +kernel) (by decide +kernel) w h).1
set_option maxRecDepth 20000 in
theorem wsL_law_i21 : ∀ w ∈ wsL_law0_r21, w ∈ lw_tbl := fun w h => (goodIn_p wsL_law0_r21 [1139, 1143, 1147, 1151, 1155, 1159] (by decide +kernel) (by decide +kernel) w h).1
set_option maxRecDepth 20000 in
theorem wsL_law_i22 : ∀ w ∈ wsL_law0_r22, w ∈ lw_tbl := fun w h => (goodIn_p wsL_law0_r22 [1164, 1168, 1172, 1176, 1180, 1184] (by decide +kernel) (by decide +kernel) w h).1
set_option maxRecDepth 20000 in
theorem wsL_law_i23 : ∀ w ∈ wsL_law0_r23, w ∈ lw_tbl := fun w h => (goodIn_p wsL_law0_r23 [1188, 657, 661, 665] (by decide +kernel) (by decide +kernel) w h).1
set_option maxRecDepth 20000 in
theorem wsL_law_i24 : ∀ w ∈ wsL_law0_r24, w ∈ lw_tbl := fun w h => (goodIn_p wsL_law0_r24 [685, 689, 693, 699, 702, 705] (by decide +kernel) (by decide +kernel) w h).1
set_option maxRecDepth 20000 in
theorem wsL_law_i25 : ∀ w ∈ wsL_law0_r25, w ∈ lw_tbl := fun w h => (goodIn_p wsL_law0_r25 [709, 713, 716, 719, 724, 727, 1192] (by decide +kernel) (by decide +kernel) w h).1
set_option maxRecDepth 20000 in
theorem wsL_law_i26 : ∀ w ∈ wsL_law0_r26, w ∈ lw_tbl := fun w h => (goodIn_p wsL_law0_r26 [1196, 1200, 1204, 1208, 1212] (by decide +kernel) (by decide +kernel) w h).1
set_option maxRecDepth 20000 in
theorem wsL_law_i27 : ∀ w ∈ wsL_law0_r27, w ∈ lw_tbl := fun w h => (goodIn_p wsL_law0_r27 [735, 740, 1216, 747, 753] (by decide +kernel) (by decide +kernel) w h).1
set_option maxRecDepth 20000 in
theorem wsL_law_i28 : ∀ w ∈ wsL_law0_r28, w ∈ lw_tbl := fun w h => (goodIn_p wsL_law0_r28 [1220, 760, 1224] (by decide +kernel) (by decide +kernel) w h).1
set_option maxRecDepth 20000 in
theorem wsL_law_i29 : ∀ w ∈ wsL_law0_r29, w ∈ lw_tbl := fun w h => (goodIn_p wsL_law0_r29 [774, 804, 800, 1228] (by decide +kernel) (by decide +kernel) w h).1
set_option maxRecDepth 20000 in
theorem wsL_law_i30 : ∀ w ∈ wsL_law0_r30, w ∈ lw_tbl := fun w h => (goodIn_p wsL_law0_r30 [812, 820] (by decide +kernel) (by decide +kernel) w h).1
set_option maxRecDepth 20000 in
theorem wsL_law_i31 : ∀ w ∈ wsL_law0_r31, w ∈ lw_tbl := fun w h => (goodIn_p wsL_law0_r31 [856, 860, 864, 869, 873, 877] (by decide +kernel) (by decide +kernel) w h).1
set_option maxRecDepth 20000 in
theorem wsL_law_i32 : ∀ w ∈ wsL_law0_r32, w ∈ lw_tbl := fun w h => (goodIn_p wsL_law0_r32 [881, 886, 895, 899] (by decide +kernel) (by decide +kernel) w h).1
set_option maxRecDepth 20000 in
theorem wsL_law_i33 : ∀ w ∈ wsL_law0_r33, w ∈ lw_tbl := fun w h => (goodIn_p wsL_law0_r33 [1232, 1236, 1240, 1244] (by decide +kernel) (by decide +kernel) w h).1
set_option maxRecDepth 20000 in
theorem wsL_law_i34 : ∀ w ∈ wsL_law0_r34, w ∈ lw_tbl := fun w h => (goodIn_p wsL_law0_r34 [1252, 1256, 1260, 1264, 906] (by decide +kernel) (by decide +kernel) w h).1
set_option maxRecDepth 20000 in
theorem wsL_law_i35 : ∀ w ∈ wsL_law0_r35, w ∈ lw_tbl := fun w h => (goodIn_p wsL_law0_r35 [911, 915, 919, 923, 927, 931] (by decide +kernel) (by decide +kernel) w h).1
set_option maxRecDepth 20000 in
theorem wsL_law_i36 : ∀ w ∈ wsL_law0_r36, w ∈ lw_tbl := fun w h => (goodIn_p wsL_law0_r36 [935, 939, 952, 950] (by decide +kernel) (by decide +kernel) w h).1
set_option maxRecDepth 20000 in
theorem wsL_law_i37 : ∀ w ∈ wsL_law0_r37, w ∈ lw_tbl := fun w h => (goodIn_p wsL_law0_r37 [965, 962, 978, 977] (by decide +kernel) (by decide +kernel) w h).1
set_option maxRecDepth 20000 in
theorem wsL_law_i38 : ∀ w ∈ wsL_law0_r38, w ∈ lw_tbl := fun w h => (goodIn_p wsL_law0_r38 [1268] (by decide +kernel) (by decide +kernel) w h).1
theorem wsL_law_in0 : ∀ w ∈ wsL_law0, w ∈ lw_tbl := by
  intro w h0
  unfold wsL_law0 at h0
  exact (List.mem_append.mp h0).elim (wsL_law_i1 w) (fun h1 => (List.mem_append.mp h1).elim (wsL_law_i2 w) (fun h2 => (List.mem_append.mp h2).elim (wsL_law_i3 w) (fun h3 => (List.mem_append.mp h3).elim (wsL_law_i4 w) (fun h4 => (List.mem_append.mp h4).elim (wsL_law_i5 w) (fun h5 => (List.mem_append.mp h5).elim (wsL_law_i6 w) (fun h6 => (List.mem_append.mp h6).elim (wsL_law_i7 w) (fun h7 => (List.mem_append.mp h7).elim (wsL_law_i8 w) (fun h8 => (List.mem_append.mp h8).elim (wsL_law_i9 w) (fun h9 => (List.mem_append.mp h9).elim (wsL_law_i10 w) (fun h10 => (List.mem_append.mp h10).elim (wsL_law_i11 w) (fun h11 => (List.mem_append.mp h11).elim (wsL_law_i12 w) (fun h12 => (List.mem_append.mp h12).elim (wsL_law_i13 w) (fun h13 => (List.mem_append.mp h13).elim (wsL_law_i14 w) (fun h14 => (List.mem_append.mp h14).elim (wsL_law_i15 w) (fun h15 => (List.mem_append.mp h15).elim (wsL_law_i16 w) (fun h16 => (List.mem_append.mp h16).elim (wsL_law_i17 w) (fun h17 => (List.mem_append.mp h17).elim (wsL_law_i18 w) (fun h18 => (List.mem_append.mp h18).elim (wsL_law_i19 w) (fun h19 => (List.mem_append.mp h19).elim (wsL_law_i20 w) (fun h20 => (List.mem_append.mp h20).elim (wsL_law_i21 w) (fun h21 => (List.mem_append.mp h21).elim (wsL_law_i22 w) (fun h22 => (List.mem_append.mp h22).elim (wsL_law_i23 w) (fun h23 => (List.mem_append.mp h23).elim (wsL_law_i24 w) (fun h24 => (List.mem_append.mp h24).elim (wsL_law_i25 w) (fun h25 => (List.mem_append.mp h25).elim (wsL_law_i26 w) (fun h26 => (List.mem_append.mp h26).elim (wsL_law_i27 w) (fun h27 => (List.mem_append.mp h27).elim (wsL_law_i28 w) (fun h28 => (List.mem_append.mp h28).elim (wsL_law_i29 w) (fun h29 => (List.mem_append.mp h29).elim (wsL_law_i30 w) (fun h30 => (List.mem_append.mp h30).elim (wsL_law_i31 w) (fun h31 => (List.mem_append.mp h31).elim (wsL_law_i32 w) (fun h32 => (List.mem_append.mp h32).elim (wsL_law_i33 w) (fun h33 => (List.mem_append.mp h33).elim (wsL_law_i34 w) (fun h34 => (List.mem_append.mp h34).elim (wsL_law_i35 w) (fun h35 => (List.mem_append.mp h35).elim (wsL_law_i36 w) (fun h36 => (List.mem_append.mp h36).elim (wsL_law_i37 w) (fun h37 => wsL_law_i38 w h37)))))))))))))))))))))))))))))))))))))
theorem wsL_law_x0 : ∀ w ∈ (vx_atS RX11 63 "java/lang/IllegalArgumentException" ["java/lang/RuntimeException", "java/lang/Exception"]).filter goodWord, w ∈ lw_tbl := by decide +kernel
theorem wsL_law_x1 : ∀ w ∈ (vx_atS RX11 88 "java/lang/IndexOutOfBoundsException" ["java/lang/RuntimeException", "java/lang/Exception"]).filter goodWord, w ∈ lw_tbl := by decide +kernel
theorem wsL_law_x2 : ∀ w ∈ (vx_atS RX11 208 "java/lang/IllegalStateException" ["java/lang/RuntimeException", "java/lang/Exception"]).filter goodWord, w ∈ lw_tbl := by decide +kernel
theorem wsL_law_x3 : ∀ w ∈ (zz_atN RX11 216 "java/util/NoSuchElementException" "java/lang/RuntimeException" ["java/lang/Exception"]).filter goodWord, w ∈ lw_tbl := by decide +kernel
theorem wsL_law_x4 : ∀ w ∈ (vx_atS RX11 150 "java/lang/UnsupportedOperationException" ["java/lang/RuntimeException", "java/lang/Exception"]).filter goodWord, w ∈ lw_tbl := by decide +kernel
theorem wsL_law_in : ∀ w ∈ wsL_law, w ∈ lw_tbl := fun w h => (List.mem_append.mp h).elim (fun h => (List.mem_append.mp h).elim (fun h => (List.mem_append.mp h).elim (fun h => (List.mem_append.mp h).elim (fun h => (List.mem_append.mp h).elim (fun h => wsL_law_in0 w h) (fun h => wsL_law_x0 w h)) (fun h => wsL_law_x1 w h)) (fun h => wsL_law_x2 w h)) (fun h => wsL_law_x3 w h)) (fun h => wsL_law_x4 w h)
theorem inlX0 : ∀ w ∈ wsX00, w ∈ wsL_law := fun _ h => List.mem_append_left _ (List.mem_append_left _ (List.mem_append_left _ (List.mem_append_left _ (List.mem_append_left _ (List.mem_append_left _ (List.mem_append_left _ (List.mem_append_left _ (List.mem_append_left _ (List.mem_append_left _ (List.mem_append_left _ (List.mem_append_left _ (List.mem_append_left _ (List.mem_append_left _ (List.mem_append_right _ h))))))))))))))
theorem inX0 : ∀ w ∈ wsX00, w ∈ lw_tbl := fun w h => wsL_law_in w (inlX0 w h)
theorem inX1 : ∀ w ∈ wsX10, w ∈ lw_tbl := by decide +kernel
theorem inlX2 : ∀ w ∈ wsX20, w ∈ wsL_law := fun _ h => List.mem_append_left _ (List.mem_append_left _ (List.mem_append_left _ (List.mem_append_left _ (List.mem_append_left _ (List.mem_append_left _ (List.mem_append_left _ (List.mem_append_left _ (List.mem_append_left _ (List.mem_append_left _ (List.mem_append_left _ (List.mem_append_right _ h)))))))))))
theorem inX2 : ∀ w ∈ wsX20, w ∈ lw_tbl := fun w h => wsL_law_in w (inlX2 w h)
theorem inlX3 : ∀ w ∈ wsX30, w ∈ wsL_law := fun _ h => List.mem_append_left _ (List.mem_append_left _ (List.mem_append_left _ (List.mem_append_left _ (List.mem_append_left _ (List.mem_append_left _ (List.mem_append_left _ (List.mem_append_left _ (List.mem_append_left _ (List.mem_append_left _ (List.mem_append_left _ (List.mem_append_left _ (List.mem_append_left _ (List.mem_append_right _ h)))))))))))))
theorem inX3 : ∀ w ∈ wsX30, w ∈ lw_tbl := fun w h => wsL_law_in w (inlX3 w h)
theorem inlX4 : ∀ w ∈ wsX40, w ∈ wsL_law := fun _ h => List.mem_append_left _ (List.mem_append_left _ (List.mem_append_left _ (List.mem_append_left _ (List.mem_append_left _ (List.mem_append_left _ (List.mem_append_left _ (List.mem_append_left _ (List.mem_append_left _ (List.mem_append_left _ (List.mem_append_right _ h))))))))))
theorem inX4 : ∀ w ∈ wsX40, w ∈ lw_tbl := fun w h => wsL_law_in w (inlX4 w h)
theorem inlX5 : ∀ w ∈ wsX50, w ∈ wsL_law := fun _ h => List.mem_append_left _ (List.mem_append_left _ (List.mem_append_left _ (List.mem_append_left _ (List.mem_append_left _ (List.mem_append_left _ (List.mem_append_left _ (List.mem_append_left _ (List.mem_append_left _ (List.mem_append_left _ (List.mem_append_left _ (List.mem_append_left _ (List.mem_append_right _ h))))))))))))
theorem inX5 : ∀ w ∈ wsX50, w ∈ lw_tbl := fun w h => wsL_law_in w (inlX5 w h)
theorem inlX6 : ∀ w ∈ wsX60, w ∈ wsL_law := fun _ h => List.mem_append_left _ (List.mem_append_left _ (List.mem_append_left _ (List.mem_append_left _ (List.mem_append_left _ (List.mem_append_left _ (List.mem_append_left _ (List.mem_append_left _ (List.mem_append_right _ h))))))))
theorem inX6 : ∀ w ∈ wsX60, w ∈ lw_tbl := fun w h => wsL_law_in w (inlX6 w h)
theorem inlX7 : ∀ w ∈ wsX70, w ∈ wsL_law := fun _ h => List.mem_append_left _ (List.mem_append_left _ (List.mem_append_left _ (List.mem_append_left _ (List.mem_append_left _ (List.mem_append_left _ (List.mem_append_left _ (List.mem_append_left _ (List.mem_append_left _ (List.mem_append_left _ (List.mem_append_left _ (List.mem_append_left _ (List.mem_append_left _ (List.mem_append_left _ (List.mem_append_left _ (List.mem_append_right _ h)))))))))))))))
theorem inX7 : ∀ w ∈ wsX70, w ∈ lw_tbl := fun w h => wsL_law_in w (inlX7 w h)
theorem inlX8 : ∀ w ∈ wsX80, w ∈ wsL_law := fun _ h => List.mem_append_left _ (List.mem_append_left _ (List.mem_append_left _ (List.mem_append_left _ (List.mem_append_left _ (List.mem_append_left _ (List.mem_append_right _ h))))))
theorem inX8 : ∀ w ∈ wsX80, w ∈ lw_tbl := fun w h => wsL_law_in w (inlX8 w h)
theorem inlX9 : ∀ w ∈ wsX90, w ∈ wsL_law := fun _ h => List.mem_append_left _ (List.mem_append_left _ (List.mem_append_left _ (List.mem_append_left _ (List.mem_append_left _ (List.mem_append_left _ (List.mem_append_left _ (List.mem_append_left _ (List.mem_append_left _ (List.mem_append_right _ h)))))))))
theorem inX9 : ∀ w ∈ wsX90, w ∈ lw_tbl := fun w h => wsL_law_in w (inlX9 w h)
theorem inlX10 : ∀ w ∈ wsX100, w ∈ wsL_law := fun _ h => List.mem_append_left _ (List.mem_append_left _ (List.mem_append_left _ (List.mem_append_left _ (List.mem_append_left _ (List.mem_append_left _ (List.mem_append_left _ (List.mem_append_right _ h)))))))
theorem inX10 : ∀ w ∈ wsX100, w ∈ lw_tbl := fun w h => wsL_law_in w (inlX10 w h)
theorem inlX11 : ∀ w ∈ wsX110, w ∈ wsL_law := fun _ h => List.mem_append_left _ (List.mem_append_left _ (List.mem_append_left _ (List.mem_append_left _ (List.mem_append_left _ (List.mem_append_left _ (List.mem_append_left _ (List.mem_append_left _ (List.mem_append_left _ (List.mem_append_left _ (List.mem_append_left _ (List.mem_append_left _ (List.mem_append_left _ (List.mem_append_left _ (List.mem_append_left _ (List.mem_append_left _ (List.mem_append_left _ (List.mem_append_right _ h)))))))))))))))))
theorem inX11 : ∀ w ∈ wsX110, w ∈ lw_tbl := fun w h => wsL_law_in w (inlX11 w h)
theorem inlX12 : ∀ w ∈ wsX120, w ∈ wsL_law := fun _ h => List.mem_append_left _ (List.mem_append_left _ (List.mem_append_left _ (List.mem_append_left _ (List.mem_append_left _ (List.mem_append_left _ (List.mem_append_left _ (List.mem_append_left _ (List.mem_append_left _ (List.mem_append_left _ (List.mem_append_left _ (List.mem_append_left _ (List.mem_append_left _ (List.mem_append_left _ (List.mem_append_left _ (List.mem_append_left _ (List.mem_append_right _ h))))))))))))))))
theorem inX12 : ∀ w ∈ wsX120, w ∈ lw_tbl := fun w h => wsL_law_in w (inlX12 w h)
theorem inJ6 : ∀ w ∈ wsJ60, w ∈ lw_tbl := by decide +kernel
theorem inJ9 : ∀ w ∈ wsJ90, w ∈ lw_tbl := by decide +kernel
theorem inJ0 : ∀ w ∈ wsJ00, w ∈ lw_tbl := by decide +kernel
theorem inJ10 : ∀ w ∈ wsJ100, w ∈ lw_tbl := by decide +kernel
theorem inJ7 : ∀ w ∈ wsJ70, w ∈ lw_tbl := by decide +kernel
theorem dL_law_0 : decode cL_law 0 = .ok (.new 8, 3) := by decide +kernel
theorem dL_law_3 : decode cL_law 3 = .ok (.dup, 1) := by decide +kernel
theorem dL_law_4 : decode cL_law 4 = .ok (.invokespecial 50, 3) := by decide +kernel
theorem dL_law_7 : decode cL_law 7 = .ok (.astore_n 1, 1) := by decide +kernel
theorem dL_law_8 : decode cL_law 8 = .ok (.new 51, 3) := by decide +kernel
theorem dL_law_11 : decode cL_law 11 = .ok (.dup, 1) := by decide +kernel
theorem dL_law_12 : decode cL_law 12 = .ok (.invokespecial 53, 3) := by decide +kernel
theorem dL_law_15 : decode cL_law 15 = .ok (.astore_n 2, 1) := by decide +kernel
theorem dL_law_16 : decode cL_law 16 = .ok (.iconst 1, 1) := by decide +kernel
theorem dL_law_17 : decode cL_law 17 = .ok (.newarray .long, 2) := by decide +kernel
theorem dL_law_19 : decode cL_law 19 = .ok (.astore_n 3, 1) := by decide +kernel
theorem dL_law_20 : decode cL_law 20 = .ok (.iconst 0, 1) := by decide +kernel
theorem dL_law_21 : decode cL_law 21 = .ok (.istore 4, 2) := by decide +kernel
theorem dL_law_23 : decode cL_law 23 = .ok (.iload 4, 2) := by decide +kernel
theorem dL_law_25 : decode cL_law 25 = .ok (.aload_n 0, 1) := by decide +kernel
theorem dL_law_26 : decode cL_law 26 = .ok (.arraylength, 1) := by decide +kernel
theorem dL_law_27 : decode cL_law 27 = .ok (.iconst 4, 1) := by decide +kernel
theorem dL_law_28 : decode cL_law 28 = .ok (.isub, 1) := by decide +kernel
theorem dL_law_29 : decode cL_law 29 = .ok (.if_icmp .gt 397, 3) := by decide +kernel
theorem dL_law_32 : decode cL_law 32 = .ok (.aload_n 0, 1) := by decide +kernel
theorem dL_law_33 : decode cL_law 33 = .ok (.iload 4, 2) := by decide +kernel
theorem dL_law_35 : decode cL_law 35 = .ok (.iaload, 1) := by decide +kernel
theorem dL_law_36 : decode cL_law 36 = .ok (.bipush 15, 2) := by decide +kernel
theorem dL_law_38 : decode cL_law 38 = .ok (.iand, 1) := by decide +kernel
theorem dL_law_39 : decode cL_law 39 = .ok (.tableswitch 381 0 8 #[49, 97, 125, 153, 193, 221, 261, 301, 353], 49) := by decide +kernel
theorem dL_law_88 : decode cL_law 88 = .ok (.aload_n 1, 1) := by decide +kernel
theorem dL_law_89 : decode cL_law 89 = .ok (.aload_n 0, 1) := by decide +kernel
theorem dL_law_90 : decode cL_law 90 = .ok (.iload 4, 2) := by decide +kernel
theorem dL_law_92 : decode cL_law 92 = .ok (.iconst 1, 1) := by decide +kernel
theorem dL_law_93 : decode cL_law 93 = .ok (.iadd, 1) := by decide +kernel
theorem dL_law_94 : decode cL_law 94 = .ok (.iaload, 1) := by decide +kernel
theorem dL_law_95 : decode cL_law 95 = .ok (.aload_n 0, 1) := by decide +kernel
theorem dL_law_96 : decode cL_law 96 = .ok (.iload 4, 2) := by decide +kernel
theorem dL_law_98 : decode cL_law 98 = .ok (.iconst 2, 1) := by decide +kernel
theorem dL_law_99 : decode cL_law 99 = .ok (.iadd, 1) := by decide +kernel
theorem dL_law_100 : decode cL_law 100 = .ok (.iaload, 1) := by decide +kernel
theorem dL_law_101 : decode cL_law 101 = .ok (.invokestatic 54, 3) := by decide +kernel
theorem dL_law_104 : decode cL_law 104 = .ok (.istore 5, 2) := by decide +kernel
theorem dL_law_106 : decode cL_law 106 = .ok (.aload_n 2, 1) := by decide +kernel
theorem dL_law_107 : decode cL_law 107 = .ok (.aload_n 0, 1) := by decide +kernel
theorem dL_law_108 : decode cL_law 108 = .ok (.iload 4, 2) := by decide +kernel
theorem dL_law_110 : decode cL_law 110 = .ok (.iconst 1, 1) := by decide +kernel
theorem dL_law_111 : decode cL_law 111 = .ok (.iadd, 1) := by decide +kernel
theorem dL_law_112 : decode cL_law 112 = .ok (.iaload, 1) := by decide +kernel
theorem dL_law_113 : decode cL_law 113 = .ok (.aload_n 0, 1) := by decide +kernel
theorem dL_law_114 : decode cL_law 114 = .ok (.iload 4, 2) := by decide +kernel
theorem dL_law_116 : decode cL_law 116 = .ok (.iconst 2, 1) := by decide +kernel
theorem dL_law_117 : decode cL_law 117 = .ok (.iadd, 1) := by decide +kernel
theorem dL_law_118 : decode cL_law 118 = .ok (.iaload, 1) := by decide +kernel
theorem dL_law_119 : decode cL_law 119 = .ok (.invokevirtual 59, 3) := by decide +kernel
theorem dL_law_122 : decode cL_law 122 = .ok (.aload_n 2, 1) := by decide +kernel
theorem dL_law_123 : decode cL_law 123 = .ok (.invokevirtual 60, 3) := by decide +kernel
theorem dL_law_126 : decode cL_law 126 = .ok (.iload 5, 2) := by decide +kernel
theorem dL_law_128 : decode cL_law 128 = .ok (.if_icmp .eq 5, 3) := by decide +kernel
theorem dL_law_131 : decode cL_law 131 = .ok (.iconst 0, 1) := by decide +kernel
theorem dL_law_132 : decode cL_law 132 = .ok (.ireturn, 1) := by decide +kernel
theorem dL_law_133 : decode cL_law 133 = .ok (.goto 287, 3) := by decide +kernel
theorem dL_law_136 : decode cL_law 136 = .ok (.aload_n 1, 1) := by decide +kernel
theorem dL_law_137 : decode cL_law 137 = .ok (.aload_n 0, 1) := by decide +kernel
theorem dL_law_138 : decode cL_law 138 = .ok (.iload 4, 2) := by decide +kernel
theorem dL_law_140 : decode cL_law 140 = .ok (.iconst 1, 1) := by decide +kernel
theorem dL_law_141 : decode cL_law 141 = .ok (.iadd, 1) := by decide +kernel
theorem dL_law_142 : decode cL_law 142 = .ok (.iaload, 1) := by decide +kernel
theorem dL_law_143 : decode cL_law 143 = .ok (.aload_n 3, 1) := by decide +kernel
theorem dL_law_144 : decode cL_law 144 = .ok (.invokestatic 64, 3) := by decide +kernel
theorem dL_law_147 : decode cL_law 147 = .ok (.istore 5, 2) := by decide +kernel
theorem dL_law_149 : decode cL_law 149 = .ok (.aload_n 2, 1) := by decide +kernel
theorem dL_law_150 : decode cL_law 150 = .ok (.aload_n 0, 1) := by decide +kernel
theorem dL_law_151 : decode cL_law 151 = .ok (.iload 4, 2) := by decide +kernel
theorem dL_law_153 : decode cL_law 153 = .ok (.iconst 1, 1) := by decide +kernel
theorem dL_law_154 : decode cL_law 154 = .ok (.iadd, 1) := by decide +kernel
theorem dL_law_155 : decode cL_law 155 = .ok (.iaload, 1) := by decide +kernel
theorem dL_law_156 : decode cL_law 156 = .ok (.invokevirtual 67, 3) := by decide +kernel
theorem dL_law_159 : decode cL_law 159 = .ok (.istore 6, 2) := by decide +kernel
theorem dL_law_161 : decode cL_law 161 = .ok (.goto 259, 3) := by decide +kernel
theorem dL_law_164 : decode cL_law 164 = .ok (.aload_n 1, 1) := by decide +kernel
theorem dL_law_165 : decode cL_law 165 = .ok (.aload_n 0, 1) := by decide +kernel
theorem dL_law_166 : decode cL_law 166 = .ok (.iload 4, 2) := by decide +kernel
theorem dL_law_168 : decode cL_law 168 = .ok (.iconst 1, 1) := by decide +kernel
theorem dL_law_169 : decode cL_law 169 = .ok (.iadd, 1) := by decide +kernel
theorem dL_law_170 : decode cL_law 170 = .ok (.iaload, 1) := by decide +kernel
theorem dL_law_171 : decode cL_law 171 = .ok (.aload_n 3, 1) := by decide +kernel
theorem dL_law_172 : decode cL_law 172 = .ok (.invokestatic 68, 3) := by decide +kernel
theorem dL_law_175 : decode cL_law 175 = .ok (.istore 5, 2) := by decide +kernel
theorem dL_law_177 : decode cL_law 177 = .ok (.aload_n 2, 1) := by decide +kernel
theorem dL_law_178 : decode cL_law 178 = .ok (.aload_n 0, 1) := by decide +kernel
theorem dL_law_179 : decode cL_law 179 = .ok (.iload 4, 2) := by decide +kernel
theorem dL_law_181 : decode cL_law 181 = .ok (.iconst 1, 1) := by decide +kernel
theorem dL_law_182 : decode cL_law 182 = .ok (.iadd, 1) := by decide +kernel
theorem dL_law_183 : decode cL_law 183 = .ok (.iaload, 1) := by decide +kernel
theorem dL_law_184 : decode cL_law 184 = .ok (.invokevirtual 70, 3) := by decide +kernel
theorem dL_law_187 : decode cL_law 187 = .ok (.istore 6, 2) := by decide +kernel
theorem dL_law_189 : decode cL_law 189 = .ok (.goto 231, 3) := by decide +kernel
theorem dL_law_192 : decode cL_law 192 = .ok (.aload_n 1, 1) := by decide +kernel
theorem dL_law_193 : decode cL_law 193 = .ok (.aload_n 0, 1) := by decide +kernel
theorem dL_law_194 : decode cL_law 194 = .ok (.iload 4, 2) := by decide +kernel
theorem dL_law_196 : decode cL_law 196 = .ok (.iconst 1, 1) := by decide +kernel
theorem dL_law_197 : decode cL_law 197 = .ok (.iadd, 1) := by decide +kernel
theorem dL_law_198 : decode cL_law 198 = .ok (.iaload, 1) := by decide +kernel
theorem dL_law_199 : decode cL_law 199 = .ok (.aload_n 0, 1) := by decide +kernel
theorem dL_law_200 : decode cL_law 200 = .ok (.iload 4, 2) := by decide +kernel
theorem dL_law_202 : decode cL_law 202 = .ok (.iconst 2, 1) := by decide +kernel
theorem dL_law_203 : decode cL_law 203 = .ok (.iadd, 1) := by decide +kernel
theorem dL_law_204 : decode cL_law 204 = .ok (.iaload, 1) := by decide +kernel
theorem dL_law_205 : decode cL_law 205 = .ok (.aload_n 3, 1) := by decide +kernel
theorem dL_law_206 : decode cL_law 206 = .ok (.invokestatic 71, 3) := by decide +kernel
theorem dL_law_209 : decode cL_law 209 = .ok (.istore 5, 2) := by decide +kernel
theorem dL_law_211 : decode cL_law 211 = .ok (.aload_n 2, 1) := by decide +kernel
theorem dL_law_212 : decode cL_law 212 = .ok (.aload_n 0, 1) := by decide +kernel
theorem dL_law_213 : decode cL_law 213 = .ok (.iload 4, 2) := by decide +kernel
theorem dL_law_215 : decode cL_law 215 = .ok (.iconst 1, 1) := by decide +kernel
theorem dL_law_216 : decode cL_law 216 = .ok (.iadd, 1) := by decide +kernel
theorem dL_law_217 : decode cL_law 217 = .ok (.iaload, 1) := by decide +kernel
theorem dL_law_218 : decode cL_law 218 = .ok (.aload_n 0, 1) := by decide +kernel
theorem dL_law_219 : decode cL_law 219 = .ok (.iload 4, 2) := by decide +kernel
theorem dL_law_221 : decode cL_law 221 = .ok (.iconst 2, 1) := by decide +kernel
theorem dL_law_222 : decode cL_law 222 = .ok (.iadd, 1) := by decide +kernel
theorem dL_law_223 : decode cL_law 223 = .ok (.iaload, 1) := by decide +kernel
theorem dL_law_224 : decode cL_law 224 = .ok (.invokevirtual 74, 3) := by decide +kernel
theorem dL_law_227 : decode cL_law 227 = .ok (.istore 6, 2) := by decide +kernel
theorem dL_law_229 : decode cL_law 229 = .ok (.goto 191, 3) := by decide +kernel
theorem dL_law_232 : decode cL_law 232 = .ok (.aload_n 1, 1) := by decide +kernel
theorem dL_law_233 : decode cL_law 233 = .ok (.aload_n 0, 1) := by decide +kernel
theorem dL_law_234 : decode cL_law 234 = .ok (.iload 4, 2) := by decide +kernel
theorem dL_law_236 : decode cL_law 236 = .ok (.iconst 1, 1) := by decide +kernel
theorem dL_law_237 : decode cL_law 237 = .ok (.iadd, 1) := by decide +kernel
theorem dL_law_238 : decode cL_law 238 = .ok (.iaload, 1) := by decide +kernel
theorem dL_law_239 : decode cL_law 239 = .ok (.aload_n 3, 1) := by decide +kernel
theorem dL_law_240 : decode cL_law 240 = .ok (.invokestatic 75, 3) := by decide +kernel
theorem dL_law_243 : decode cL_law 243 = .ok (.istore 5, 2) := by decide +kernel
theorem dL_law_245 : decode cL_law 245 = .ok (.aload_n 2, 1) := by decide +kernel
theorem dL_law_246 : decode cL_law 246 = .ok (.aload_n 0, 1) := by decide +kernel
theorem dL_law_247 : decode cL_law 247 = .ok (.iload 4, 2) := by decide +kernel
theorem dL_law_249 : decode cL_law 249 = .ok (.iconst 1, 1) := by decide +kernel
theorem dL_law_250 : decode cL_law 250 = .ok (.iadd, 1) := by decide +kernel
theorem dL_law_251 : decode cL_law 251 = .ok (.iaload, 1) := by decide +kernel
theorem dL_law_252 : decode cL_law 252 = .ok (.invokevirtual 77, 3) := by decide +kernel
theorem dL_law_255 : decode cL_law 255 = .ok (.istore 6, 2) := by decide +kernel
theorem dL_law_257 : decode cL_law 257 = .ok (.goto 163, 3) := by decide +kernel
theorem dL_law_260 : decode cL_law 260 = .ok (.aload_n 1, 1) := by decide +kernel
theorem dL_law_261 : decode cL_law 261 = .ok (.aload_n 0, 1) := by decide +kernel
theorem dL_law_262 : decode cL_law 262 = .ok (.iload 4, 2) := by decide +kernel
theorem dL_law_264 : decode cL_law 264 = .ok (.iconst 1, 1) := by decide +kernel
theorem dL_law_265 : decode cL_law 265 = .ok (.iadd, 1) := by decide +kernel
theorem dL_law_266 : decode cL_law 266 = .ok (.iaload, 1) := by decide +kernel
theorem dL_law_267 : decode cL_law 267 = .ok (.aload_n 0, 1) := by decide +kernel
theorem dL_law_268 : decode cL_law 268 = .ok (.iload 4, 2) := by decide +kernel
theorem dL_law_270 : decode cL_law 270 = .ok (.iconst 2, 1) := by decide +kernel
theorem dL_law_271 : decode cL_law 271 = .ok (.iadd, 1) := by decide +kernel
theorem dL_law_272 : decode cL_law 272 = .ok (.iaload, 1) := by decide +kernel
theorem dL_law_273 : decode cL_law 273 = .ok (.aload_n 3, 1) := by decide +kernel
theorem dL_law_274 : decode cL_law 274 = .ok (.invokestatic 78, 3) := by decide +kernel
theorem dL_law_277 : decode cL_law 277 = .ok (.istore 5, 2) := by decide +kernel
theorem dL_law_279 : decode cL_law 279 = .ok (.aload_n 2, 1) := by decide +kernel
theorem dL_law_280 : decode cL_law 280 = .ok (.aload_n 0, 1) := by decide +kernel
theorem dL_law_281 : decode cL_law 281 = .ok (.iload 4, 2) := by decide +kernel
theorem dL_law_283 : decode cL_law 283 = .ok (.iconst 1, 1) := by decide +kernel
theorem dL_law_284 : decode cL_law 284 = .ok (.iadd, 1) := by decide +kernel
theorem dL_law_285 : decode cL_law 285 = .ok (.iaload, 1) := by decide +kernel
theorem dL_law_286 : decode cL_law 286 = .ok (.aload_n 0, 1) := by decide +kernel
theorem dL_law_287 : decode cL_law 287 = .ok (.iload 4, 2) := by decide +kernel
theorem dL_law_289 : decode cL_law 289 = .ok (.iconst 2, 1) := by decide +kernel
theorem dL_law_290 : decode cL_law 290 = .ok (.iadd, 1) := by decide +kernel
theorem dL_law_291 : decode cL_law 291 = .ok (.iaload, 1) := by decide +kernel
theorem dL_law_292 : decode cL_law 292 = .ok (.invokevirtual 80, 3) := by decide +kernel
theorem dL_law_295 : decode cL_law 295 = .ok (.istore 6, 2) := by decide +kernel
theorem dL_law_297 : decode cL_law 297 = .ok (.goto 123, 3) := by decide +kernel
theorem dL_law_300 : decode cL_law 300 = .ok (.aload_n 1, 1) := by decide +kernel
theorem dL_law_301 : decode cL_law 301 = .ok (.aload_n 0, 1) := by decide +kernel
theorem dL_law_302 : decode cL_law 302 = .ok (.iload 4, 2) := by decide +kernel
theorem dL_law_304 : decode cL_law 304 = .ok (.iconst 1, 1) := by decide +kernel
theorem dL_law_305 : decode cL_law 305 = .ok (.iadd, 1) := by decide +kernel
theorem dL_law_306 : decode cL_law 306 = .ok (.iaload, 1) := by decide +kernel
theorem dL_law_307 : decode cL_law 307 = .ok (.aload_n 0, 1) := by decide +kernel
theorem dL_law_308 : decode cL_law 308 = .ok (.iload 4, 2) := by decide +kernel
theorem dL_law_310 : decode cL_law 310 = .ok (.iconst 2, 1) := by decide +kernel
theorem dL_law_311 : decode cL_law 311 = .ok (.iadd, 1) := by decide +kernel
theorem dL_law_312 : decode cL_law 312 = .ok (.iaload, 1) := by decide +kernel
theorem dL_law_313 : decode cL_law 313 = .ok (.aload_n 3, 1) := by decide +kernel
theorem dL_law_314 : decode cL_law 314 = .ok (.invokestatic 81, 3) := by decide +kernel
theorem dL_law_317 : decode cL_law 317 = .ok (.istore 5, 2) := by decide +kernel
theorem dL_law_319 : decode cL_law 319 = .ok (.aload_n 2, 1) := by decide +kernel
theorem dL_law_320 : decode cL_law 320 = .ok (.aload_n 0, 1) := by decide +kernel
theorem dL_law_321 : decode cL_law 321 = .ok (.iload 4, 2) := by decide +kernel
theorem dL_law_323 : decode cL_law 323 = .ok (.iconst 1, 1) := by decide +kernel
theorem dL_law_324 : decode cL_law 324 = .ok (.iadd, 1) := by decide +kernel
theorem dL_law_325 : decode cL_law 325 = .ok (.iaload, 1) := by decide +kernel
theorem dL_law_326 : decode cL_law 326 = .ok (.aload_n 0, 1) := by decide +kernel
theorem dL_law_327 : decode cL_law 327 = .ok (.iload 4, 2) := by decide +kernel
theorem dL_law_329 : decode cL_law 329 = .ok (.iconst 2, 1) := by decide +kernel
theorem dL_law_330 : decode cL_law 330 = .ok (.iadd, 1) := by decide +kernel
theorem dL_law_331 : decode cL_law 331 = .ok (.iaload, 1) := by decide +kernel
theorem dL_law_332 : decode cL_law 332 = .ok (.invokevirtual 83, 3) := by decide +kernel
theorem dL_law_335 : decode cL_law 335 = .ok (.istore 6, 2) := by decide +kernel
theorem dL_law_337 : decode cL_law 337 = .ok (.goto 83, 3) := by decide +kernel
theorem dL_law_340 : decode cL_law 340 = .ok (.aload_n 1, 1) := by decide +kernel
theorem dL_law_341 : decode cL_law 341 = .ok (.aload_n 0, 1) := by decide +kernel
theorem dL_law_342 : decode cL_law 342 = .ok (.iload 4, 2) := by decide +kernel
theorem dL_law_344 : decode cL_law 344 = .ok (.iconst 1, 1) := by decide +kernel
theorem dL_law_345 : decode cL_law 345 = .ok (.iadd, 1) := by decide +kernel
theorem dL_law_346 : decode cL_law 346 = .ok (.iaload, 1) := by decide +kernel
theorem dL_law_347 : decode cL_law 347 = .ok (.aload_n 0, 1) := by decide +kernel
theorem dL_law_348 : decode cL_law 348 = .ok (.iload 4, 2) := by decide +kernel
theorem dL_law_350 : decode cL_law 350 = .ok (.iconst 2, 1) := by decide +kernel
theorem dL_law_351 : decode cL_law 351 = .ok (.iadd, 1) := by decide +kernel
theorem dL_law_352 : decode cL_law 352 = .ok (.iaload, 1) := by decide +kernel
theorem dL_law_353 : decode cL_law 353 = .ok (.aload_n 0, 1) := by decide +kernel
theorem dL_law_354 : decode cL_law 354 = .ok (.iload 4, 2) := by decide +kernel
theorem dL_law_356 : decode cL_law 356 = .ok (.iconst 3, 1) := by decide +kernel
theorem dL_law_357 : decode cL_law 357 = .ok (.iadd, 1) := by decide +kernel
theorem dL_law_358 : decode cL_law 358 = .ok (.iaload, 1) := by decide +kernel
theorem dL_law_359 : decode cL_law 359 = .ok (.aload_n 3, 1) := by decide +kernel
theorem dL_law_360 : decode cL_law 360 = .ok (.invokestatic 84, 3) := by decide +kernel
theorem dL_law_363 : decode cL_law 363 = .ok (.istore 5, 2) := by decide +kernel
theorem dL_law_365 : decode cL_law 365 = .ok (.aload_n 2, 1) := by decide +kernel
theorem dL_law_366 : decode cL_law 366 = .ok (.aload_n 0, 1) := by decide +kernel
theorem dL_law_367 : decode cL_law 367 = .ok (.iload 4, 2) := by decide +kernel
theorem dL_law_369 : decode cL_law 369 = .ok (.iconst 1, 1) := by decide +kernel
theorem dL_law_370 : decode cL_law 370 = .ok (.iadd, 1) := by decide +kernel
theorem dL_law_371 : decode cL_law 371 = .ok (.iaload, 1) := by decide +kernel
theorem dL_law_372 : decode cL_law 372 = .ok (.aload_n 0, 1) := by decide +kernel
theorem dL_law_373 : decode cL_law 373 = .ok (.iload 4, 2) := by decide +kernel
theorem dL_law_375 : decode cL_law 375 = .ok (.iconst 2, 1) := by decide +kernel
theorem dL_law_376 : decode cL_law 376 = .ok (.iadd, 1) := by decide +kernel
theorem dL_law_377 : decode cL_law 377 = .ok (.iaload, 1) := by decide +kernel
theorem dL_law_378 : decode cL_law 378 = .ok (.aload_n 0, 1) := by decide +kernel
theorem dL_law_379 : decode cL_law 379 = .ok (.iload 4, 2) := by decide +kernel
theorem dL_law_381 : decode cL_law 381 = .ok (.iconst 3, 1) := by decide +kernel
theorem dL_law_382 : decode cL_law 382 = .ok (.iadd, 1) := by decide +kernel
theorem dL_law_383 : decode cL_law 383 = .ok (.iaload, 1) := by decide +kernel
theorem dL_law_384 : decode cL_law 384 = .ok (.invokevirtual 87, 3) := by decide +kernel
theorem dL_law_387 : decode cL_law 387 = .ok (.istore 6, 2) := by decide +kernel
theorem dL_law_389 : decode cL_law 389 = .ok (.goto 31, 3) := by decide +kernel
theorem dL_law_392 : decode cL_law 392 = .ok (.aload_n 1, 1) := by decide +kernel
theorem dL_law_393 : decode cL_law 393 = .ok (.aload_n 0, 1) := by decide +kernel
theorem dL_law_394 : decode cL_law 394 = .ok (.iload 4, 2) := by decide +kernel
theorem dL_law_396 : decode cL_law 396 = .ok (.iconst 1, 1) := by decide +kernel
theorem dL_law_397 : decode cL_law 397 = .ok (.iadd, 1) := by decide +kernel
theorem dL_law_398 : decode cL_law 398 = .ok (.iaload, 1) := by decide +kernel
theorem dL_law_399 : decode cL_law 399 = .ok (.aload_n 3, 1) := by decide +kernel
theorem dL_law_400 : decode cL_law 400 = .ok (.invokestatic 88, 3) := by decide +kernel
theorem dL_law_403 : decode cL_law 403 = .ok (.istore 5, 2) := by decide +kernel
theorem dL_law_405 : decode cL_law 405 = .ok (.aload_n 2, 1) := by decide +kernel
theorem dL_law_406 : decode cL_law 406 = .ok (.aload_n 0, 1) := by decide +kernel
theorem dL_law_407 : decode cL_law 407 = .ok (.iload 4, 2) := by decide +kernel
theorem dL_law_409 : decode cL_law 409 = .ok (.iconst 1, 1) := by decide +kernel
theorem dL_law_410 : decode cL_law 410 = .ok (.iadd, 1) := by decide +kernel
theorem dL_law_411 : decode cL_law 411 = .ok (.iaload, 1) := by decide +kernel
theorem dL_law_412 : decode cL_law 412 = .ok (.invokevirtual 90, 3) := by decide +kernel
theorem dL_law_415 : decode cL_law 415 = .ok (.istore 6, 2) := by decide +kernel
theorem dL_law_417 : decode cL_law 417 = .ok (.goto 3, 3) := by decide +kernel
theorem dL_law_420 : decode cL_law 420 = .ok (.iinc 4 4, 3) := by decide +kernel
theorem dL_law_423 : decode cL_law 423 = .ok (.goto (-400), 3) := by decide +kernel
theorem dL_law_426 : decode cL_law 426 = .ok (.iconst 1, 1) := by decide +kernel
theorem dL_law_427 : decode cL_law 427 = .ok (.ireturn, 1) := by decide +kernel
