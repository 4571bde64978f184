theorem zy_h {a : Cond} {l : List Cond} : a ∈ a :: l := List.Mem.head _
theorem zy_t {a b : Cond} {l : List Cond} (h : a ∈ l) : a ∈ b :: l := List.Mem.tail _ h
theorem zy_l {a : Cond} {l m : List Cond} (h : a ∈ l) : a ∈ l ++ m := List.mem_append_left _ h
theorem zy_r {a : Cond} {l m : List Cond} (h : a ∈ m) : a ∈ l ++ m := List.mem_append_right _ h
def zy_S (l big : List Cond) : Prop := ∀ w ∈ l, w ∈ big
theorem zy_c {a : Cond} {l big : List Cond} (h : a ∈ big) (g : zy_S l big) : zy_S (a :: l) big := List.forall_mem_cons.mpr ⟨h, g⟩
theorem zy_n {big : List Cond} : zy_S [] big := fun _ h => nomatch h
theorem zy_a {l m big : List Cond} (h : zy_S l big) (g : zy_S m big) : zy_S (l ++ m) big := fun w hw => (List.mem_append.mp hw).elim (h w) (g w)
theorem zy_p {l big : List Cond} (h : ∀ w ∈ l, w ∈ big) : zy_S l big := h
theorem zy_g (L : List Cond) : (L.filter goodWord).all goodWord = true := List.all_eq_true.mpr (fun _ h => (List.mem_filter.mp h).2)
def wsX1_init : List Cond := .code yX1_init cX1_init 2 none :: ([.methodLink RX1 3 objectInit, .instanceMethod objectInit, .code objectInit ⟨#[0xb1]⟩ 1 none, .fieldLink RX1 9 "RoomForms$Form" "room" "LRoomForms$Room;"] ++ wsX00 ++ wsX20 ++ wsX30 ++ wsX40 ++ wsX50 ++ wsX60 ++ wsX90)
def wsX0_init : List Cond := .code yX0_init cX0_init 3 none :: ([.fieldLink RX0 9 "RoomForms$Fits" "lastEnd" "I", .fieldLink RX0 15 "RoomForms$Fits" "number" "I", .methodLink RX0 3 yX1_init, .instanceMethod yX1_init, .initialized RX1, .code yX1_init cX1_init 2 none, .methodLink RX1 3 objectInit, .instanceMethod objectInit, .code objectInit ⟨#[0xb1]⟩ 1 none, .fieldLink RX1 9 "RoomForms$Form" "room" "LRoomForms$Room;"] ++ wsX00 ++ wsX20 ++ wsX30 ++ wsX40 ++ wsX50 ++ wsX60 ++ wsX90)
def wsX0_begin : List Cond := .code yX0_begin cX0_begin 1 none :: ([.fieldLink RX0 9 "RoomForms$Fits" "lastEnd" "I"] ++ wsX00)
def wsX10_clear : List Cond := .code yX10_clear cX10_clear 1 none :: ([.fieldLink RX10 9 "RoomForms$Stretches" "size" "I"] ++ wsX100)
def wsX7_isFree : List Cond := .code yX7_isFree cX7_isFree 2 (some .boolean) :: ([.fieldLink RX7 36 "RoomForms$Room" "words" "I", .fieldLink RX7 9 "RoomForms$Room" "owners" "[I"] ++ wsX70)
def wsX10_add : List Cond := .code yX10_add cX10_add 3 none :: ([.fieldLink RX10 9 "RoomForms$Stretches" "size" "I", .fieldLink RX10 24 "RoomForms$Stretches" "places" "[I", .fieldLink RX10 28 "RoomForms$Stretches" "words" "[I"] ++ wsX100)
def wsX7_listRuns : List Cond := .code yX7_listRuns cX7_listRuns 3 (some (.object "RoomForms$Stretches")) :: ([.fieldLink RX7 32 "RoomForms$Room" "runs" "LRoomForms$Stretches;", .fieldLink RX7 36 "RoomForms$Room" "words" "I", .methodLink RX7 68 yX10_clear, .instanceMethod yX10_clear, .selects RX10 yX10_clear yX10_clear, .initialized RX10, .code yX10_clear cX10_clear 1 none, .fieldLink RX10 9 "RoomForms$Stretches" "size" "I", .methodLink RX7 71 yX7_isFree, .instanceMethod yX7_isFree, .selects RX7 yX7_isFree yX7_isFree, .initialized RX7, .code yX7_isFree cX7_isFree 2 (some .boolean), .fieldLink RX7 9 "RoomForms$Room" "owners" "[I", .methodLink RX7 75 yX10_add, .instanceMethod yX10_add, .selects RX10 yX10_add yX10_add, .code yX10_add cX10_add 3 none, .fieldLink RX10 24 "RoomForms$Stretches" "places" "[I", .fieldLink RX10 28 "RoomForms$Stretches" "words" "[I"] ++ wsX70 ++ wsX100)
def wsX10_nextFit : List Cond := .code yX10_nextFit cX10_nextFit 6 (some .int) :: ([.fieldLink RX10 9 "RoomForms$Stretches" "size" "I", .fieldLink RX10 24 "RoomForms$Stretches" "places" "[I", .methodLink RX10 18 Lib.Math.max.name, .static Lib.Math.max.name, .initialized "java/lang/Math", .code Lib.Math.max.name Lib.Math.max.code 2 (some .int), .fieldLink RX10 28 "RoomForms$Stretches" "words" "[I", .fieldLink RX10 15 "RoomForms$Stretches" "looked" "I"] ++ wsX100)
def wsX10_placeOf : List Cond := .code yX10_placeOf cX10_placeOf 2 (some .int) :: ([.fieldLink RX10 9 "RoomForms$Stretches" "size" "I", .fieldLink RX10 24 "RoomForms$Stretches" "places" "[I"] ++ wsX100)
def wsX10_bestFit : List Cond := .code yX10_bestFit cX10_bestFit 4 (some .int) :: ([.fieldLink RX10 9 "RoomForms$Stretches" "size" "I", .fieldLink RX10 28 "RoomForms$Stretches" "words" "[I", .fieldLink RX10 15 "RoomForms$Stretches" "looked" "I", .methodLink RX10 50 yX10_placeOf, .instanceMethod yX10_placeOf, .selects RX10 yX10_placeOf yX10_placeOf, .initialized RX10, .code yX10_placeOf cX10_placeOf 2 (some .int), .fieldLink RX10 24 "RoomForms$Stretches" "places" "[I"] ++ wsX100)
def wsX10_greatestFit : List Cond := .code yX10_greatestFit cX10_greatestFit 4 (some .int) :: ([.fieldLink RX10 9 "RoomForms$Stretches" "size" "I", .fieldLink RX10 28 "RoomForms$Stretches" "words" "[I", .fieldLink RX10 15 "RoomForms$Stretches" "looked" "I", .methodLink RX10 50 yX10_placeOf, .instanceMethod yX10_placeOf, .selects RX10 yX10_placeOf yX10_placeOf, .initialized RX10, .code yX10_placeOf cX10_placeOf 2 (some .int), .fieldLink RX10 24 "RoomForms$Stretches" "places" "[I"] ++ wsX100)
def wsX10_firstFit : List Cond := .code yX10_firstFit cX10_firstFit 3 (some .int) :: ([.fieldLink RX10 9 "RoomForms$Stretches" "size" "I", .fieldLink RX10 15 "RoomForms$Stretches" "looked" "I", .fieldLink RX10 28 "RoomForms$Stretches" "words" "[I", .fieldLink RX10 24 "RoomForms$Stretches" "places" "[I"] ++ wsX100)
def wsX10_find_r1 : List Cond := [Cond.fieldLink RX10 15 "RoomForms$Stretches" "looked" "I", Cond.methodLink RX10 37 yX10_nextFit, Cond.instanceMethod yX10_nextFit, Cond.selects RX10 yX10_nextFit yX10_nextFit, Cond.initialized RX10, Cond.code yX10_nextFit cX10_nextFit 6 (some .int), Cond.fieldLink RX10 9 "RoomForms$Stretches" "size" "I", Cond.fieldLink RX10 24 "RoomForms$Stretches" "places" "[I", Cond.methodLink RX10 18 Lib.Math.max.name, Cond.static Lib.Math.max.name, Cond.initialized "java/lang/Math", Cond.code Lib.Math.max.name Lib.Math.max.code 2 (some .int), Cond.fieldLink RX10 28 "RoomForms$Stretches" "words" "[I", Cond.methodLink RX10 40 yX10_bestFit, Cond.instanceMethod yX10_bestFit, Cond.selects RX10 yX10_bestFit yX10_bestFit, Cond.code yX10_bestFit cX10_bestFit 4 (some .int), Cond.methodLink RX10 50 yX10_placeOf, Cond.instanceMethod yX10_placeOf, Cond.selects RX10 yX10_placeOf yX10_placeOf, Cond.code yX10_placeOf cX10_placeOf 2 (some .int), Cond.methodLink RX10 44 yX10_greatestFit, Cond.instanceMethod yX10_greatestFit, Cond.selects RX10 yX10_greatestFit yX10_greatestFit]
def wsX10_find_r2 : List Cond := [Cond.code yX10_greatestFit cX10_greatestFit 4 (some .int), Cond.methodLink RX10 47 yX10_firstFit, Cond.instanceMethod yX10_firstFit, Cond.selects RX10 yX10_firstFit yX10_firstFit, Cond.code yX10_firstFit cX10_firstFit 3 (some .int)]
def wsX10_find : List Cond := .code yX10_find cX10_find 4 (some .int) :: ((wsX10_find_r1 ++ wsX10_find_r2) ++ wsX100)
def wsX10_looked : List Cond := .code yX10_looked cX10_looked 1 (some .int) :: ([.fieldLink RX10 15 "RoomForms$Stretches" "looked" "I"] ++ wsX100)
def wsX7_addLooked : List Cond := .code yX7_addLooked cX7_addLooked 2 none :: ([.fieldLink RX7 46 "RoomForms$Room" "looked" "I"] ++ wsX70)
def wsX0_take_r1 : List Cond := [Cond.fieldLink RX0 18 "RoomForms$Fits" "room" "LRoomForms$Room;", Cond.sameField "RoomForms$Fits" "RoomForms$Form" "room" "LRoomForms$Room;", Cond.fieldLink RX0 15 "RoomForms$Fits" "number" "I", Cond.fieldLink RX0 9 "RoomForms$Fits" "lastEnd" "I", Cond.methodLink RX0 22 yX7_listRuns, Cond.instanceMethod yX7_listRuns, Cond.selects RX7 yX7_listRuns yX7_listRuns, Cond.initialized RX7, Cond.code yX7_listRuns cX7_listRuns 3 (some (.object "RoomForms$Stretches")), Cond.fieldLink RX7 32 "RoomForms$Room" "runs" "LRoomForms$Stretches;", Cond.fieldLink RX7 36 "RoomForms$Room" "words" "I", Cond.methodLink RX7 68 yX10_clear, Cond.instanceMethod yX10_clear, Cond.selects RX10 yX10_clear yX10_clear, Cond.initialized RX10, Cond.code yX10_clear cX10_clear 1 none, Cond.fieldLink RX10 9 "RoomForms$Stretches" "size" "I", Cond.methodLink RX7 71 yX7_isFree, Cond.instanceMethod yX7_isFree, Cond.selects RX7 yX7_isFree yX7_isFree, Cond.code yX7_isFree cX7_isFree 2 (some .boolean), Cond.fieldLink RX7 9 "RoomForms$Room" "owners" "[I", Cond.methodLink RX7 75 yX10_add, Cond.instanceMethod yX10_add]
def wsX0_take_r2 : List Cond := [Cond.selects RX10 yX10_add yX10_add, Cond.code yX10_add cX10_add 3 none, Cond.fieldLink RX10 24 "RoomForms$Stretches" "places" "[I", Cond.fieldLink RX10 28 "RoomForms$Stretches" "words" "[I", Cond.methodLink RX0 28 yX10_find, Cond.instanceMethod yX10_find, Cond.selects RX10 yX10_find yX10_find, Cond.code yX10_find cX10_find 4 (some .int), Cond.fieldLink RX10 15 "RoomForms$Stretches" "looked" "I", Cond.methodLink RX10 37 yX10_nextFit, Cond.instanceMethod yX10_nextFit, Cond.selects RX10 yX10_nextFit yX10_nextFit, Cond.code yX10_nextFit cX10_nextFit 6 (some .int), Cond.methodLink RX10 18 Lib.Math.max.name, Cond.static Lib.Math.max.name, Cond.initialized "java/lang/Math", Cond.code Lib.Math.max.name Lib.Math.max.code 2 (some .int), Cond.methodLink RX10 40 yX10_bestFit, Cond.instanceMethod yX10_bestFit, Cond.selects RX10 yX10_bestFit yX10_bestFit, Cond.code yX10_bestFit cX10_bestFit 4 (some .int), Cond.methodLink RX10 50 yX10_placeOf, Cond.instanceMethod yX10_placeOf, Cond.selects RX10 yX10_placeOf yX10_placeOf]
def wsX0_take_r3 : List Cond := [Cond.code yX10_placeOf cX10_placeOf 2 (some .int), Cond.methodLink RX10 44 yX10_greatestFit, Cond.instanceMethod yX10_greatestFit, Cond.selects RX10 yX10_greatestFit yX10_greatestFit, Cond.code yX10_greatestFit cX10_greatestFit 4 (some .int), Cond.methodLink RX10 47 yX10_firstFit, Cond.instanceMethod yX10_firstFit, Cond.selects RX10 yX10_firstFit yX10_firstFit, Cond.code yX10_firstFit cX10_firstFit 3 (some .int), Cond.methodLink RX0 34 yX10_looked, Cond.instanceMethod yX10_looked, Cond.selects RX10 yX10_looked yX10_looked, Cond.code yX10_looked cX10_looked 1 (some .int), Cond.methodLink RX0 38 yX7_addLooked, Cond.instanceMethod yX7_addLooked, Cond.selects RX7 yX7_addLooked yX7_addLooked, Cond.code yX7_addLooked cX7_addLooked 2 none, Cond.fieldLink RX7 46 "RoomForms$Room" "looked" "I"]
def wsX0_take : List Cond := .code yX0_take cX0_take 4 (some .int) :: ((wsX0_take_r1 ++ (wsX0_take_r2 ++ wsX0_take_r3)) ++ wsX00 ++ wsX20 ++ wsX30 ++ wsX40 ++ wsX50 ++ wsX60 ++ wsX90 ++ wsX70 ++ wsX100)
def wsX0_takeBack : List Cond := .code yX0_takeBack cX0_takeBack 3 none :: ([])
def wsX1_spanOf : List Cond := .code yX1_spanOf cX1_spanOf 2 (some .int) :: ([])
def wsX1_quickOnes : List Cond := .code yX1_quickOnes cX1_quickOnes 1 (some .int) :: ([])
def wsX1_freeParts : List Cond := .code yX1_freeParts cX1_freeParts 1 (some .int) :: ([])
def wsX1_top : List Cond := .code yX1_top cX1_top 1 (some .int) :: ([])
def wsX1_placeInList : List Cond := .code yX1_placeInList cX1_placeInList 3 (some .int) :: ([])
def wsX2_init : List Cond := .code yX2_init cX2_init 2 none :: ([.fieldLink RX2 9 "RoomForms$Grains" "grains" "I", .methodLink RX2 3 yX1_init, .instanceMethod yX1_init, .initialized RX1, .code yX1_init cX1_init 2 none, .methodLink RX1 3 objectInit, .instanceMethod objectInit, .code objectInit ⟨#[0xb1]⟩ 1 none, .fieldLink RX1 9 "RoomForms$Form" "room" "LRoomForms$Room;"] ++ wsX20 ++ wsX00 ++ wsX30 ++ wsX40 ++ wsX50 ++ wsX60 ++ wsX90)
def wsX7_words : List Cond := .code yX7_words cX7_words 1 (some .int) :: ([.fieldLink RX7 36 "RoomForms$Room" "words" "I"] ++ wsX70)
def wsX2_begin : List Cond := .code yX2_begin cX2_begin 1 none :: ([.fieldLink RX2 15 "RoomForms$Grains" "room" "LRoomForms$Room;", .sameField "RoomForms$Grains" "RoomForms$Form" "room" "LRoomForms$Room;", .fieldLink RX2 9 "RoomForms$Grains" "grains" "I", .methodLink RX2 19 yX7_words, .instanceMethod yX7_words, .selects RX7 yX7_words yX7_words, .initialized RX7, .code yX7_words cX7_words 1 (some .int), .fieldLink RX7 36 "RoomForms$Room" "words" "I"] ++ wsX00 ++ wsX20 ++ wsX30 ++ wsX40 ++ wsX50 ++ wsX60 ++ wsX90 ++ wsX70)
def wsX2_spanOf : List Cond := .code yX2_spanOf cX2_spanOf 2 (some .int) :: ([])
def wsX11_powerFrom : List Cond := .code yX11_powerFrom cX11_powerFrom 2 (some .int) :: ([])
def wsX2_areFree : List Cond := .code yX2_areFree cX2_areFree 4 (some .boolean) :: ([.fieldLink RX2 15 "RoomForms$Grains" "room" "LRoomForms$Room;", .sameField "RoomForms$Grains" "RoomForms$Form" "room" "LRoomForms$Room;", .methodLink RX2 43 yX7_isFree, .instanceMethod yX7_isFree, .selects RX7 yX7_isFree yX7_isFree, .initialized RX7, .code yX7_isFree cX7_isFree 2 (some .boolean), .fieldLink RX7 36 "RoomForms$Room" "words" "I", .fieldLink RX7 9 "RoomForms$Room" "owners" "[I"] ++ wsX00 ++ wsX20 ++ wsX30 ++ wsX40 ++ wsX50 ++ wsX60 ++ wsX90 ++ wsX70)
def wsX2_take_r1 : List Cond := [Cond.methodLink RX2 29 Lib.Math.min.name, Cond.static Lib.Math.min.name, Cond.initialized "java/lang/Math", Cond.code Lib.Math.min.name Lib.Math.min.code 2 (some .int), Cond.fieldLink RX2 9 "RoomForms$Grains" "grains" "I", Cond.fieldLink RX2 15 "RoomForms$Grains" "room" "LRoomForms$Room;", Cond.sameField "RoomForms$Grains" "RoomForms$Form" "room" "LRoomForms$Room;", Cond.static yX11_powerFrom, Cond.initialized RX11, Cond.code yX11_powerFrom cX11_powerFrom 2 (some .int), Cond.methodLink RX2 35 yX7_addLooked, Cond.instanceMethod yX7_addLooked, Cond.selects RX7 yX7_addLooked yX7_addLooked, Cond.initialized RX7, Cond.code yX7_addLooked cX7_addLooked 2 none, Cond.fieldLink RX7 46 "RoomForms$Room" "looked" "I", Cond.methodLink RX2 39 yX2_areFree, Cond.instanceMethod yX2_areFree, Cond.selects RX2 yX2_areFree yX2_areFree, Cond.initialized RX2, Cond.code yX2_areFree cX2_areFree 4 (some .boolean), Cond.methodLink RX2 43 yX7_isFree, Cond.instanceMethod yX7_isFree, Cond.selects RX7 yX7_isFree yX7_isFree]
def wsX2_take_r2 : List Cond := [Cond.code yX7_isFree cX7_isFree 2 (some .boolean), Cond.fieldLink RX7 36 "RoomForms$Room" "words" "I", Cond.fieldLink RX7 9 "RoomForms$Room" "owners" "[I"]
def wsX2_take : List Cond := .code yX2_take cX2_take 5 (some .int) :: ((wsX2_take_r1 ++ wsX2_take_r2) ++ wsX20 ++ wsX00 ++ wsX30 ++ wsX40 ++ wsX50 ++ wsX60 ++ wsX90 ++ wsX70)
def wsX2_takeBack : List Cond := .code yX2_takeBack cX2_takeBack 3 none :: ([])
def wsX3_init : List Cond := .code yX3_init cX3_init 2 none :: ([.arrayClass .int, .fieldLink RX3 9 "RoomForms$Halves" "pieces" "[I", .fieldLink RX3 15 "RoomForms$Halves" "whole" "I", .methodLink RX3 3 yX1_init, .instanceMethod yX1_init, .initialized RX1, .code yX1_init cX1_init 2 none, .methodLink RX1 3 objectInit, .instanceMethod objectInit, .code objectInit ⟨#[0xb1]⟩ 1 none, .fieldLink RX1 9 "RoomForms$Form" "room" "LRoomForms$Room;"] ++ wsX30 ++ wsX00 ++ wsX20 ++ wsX40 ++ wsX50 ++ wsX60 ++ wsX90)
def wsJ7_fill_53178 : List Cond := .code yJ7_fill_53178 cJ7_fill_53178 4 none :: ([])
def wsX3_begin : List Cond := .code yX3_begin cX3_begin 2 none :: ([.fieldLink RX3 19 "RoomForms$Halves" "room" "LRoomForms$Room;", .sameField "RoomForms$Halves" "RoomForms$Form" "room" "LRoomForms$Room;", .fieldLink RX3 15 "RoomForms$Halves" "whole" "I", .fieldLink RX3 9 "RoomForms$Halves" "pieces" "[I", .methodLink RX3 23 yX7_words, .instanceMethod yX7_words, .selects RX7 yX7_words yX7_words, .initialized RX7, .code yX7_words cX7_words 1 (some .int), .fieldLink RX7 36 "RoomForms$Room" "words" "I", .static yX11_powerFrom, .initialized RX11, .code yX11_powerFrom cX11_powerFrom 2 (some .int), .methodLink RX3 33 yJ7_fill_53178, .static yJ7_fill_53178, .initialized RJ7, .code yJ7_fill_53178 cJ7_fill_53178 4 none] ++ wsX00 ++ wsX20 ++ wsX30 ++ wsX40 ++ wsX50 ++ wsX60 ++ wsX90 ++ wsX70)
def wsX3_spanOf : List Cond := .code yX3_spanOf cX3_spanOf 2 (some .int) :: ([.static yX11_powerFrom, .initialized RX11, .code yX11_powerFrom cX11_powerFrom 2 (some .int)])
def wsX3_freeParts : List Cond := .code yX3_freeParts cX3_freeParts 3 (some .int) :: ([.fieldLink RX3 15 "RoomForms$Halves" "whole" "I", .fieldLink RX3 9 "RoomForms$Halves" "pieces" "[I"] ++ wsX30)
def wsX3_smallestPiece : List Cond := .code yX3_smallestPiece cX3_smallestPiece 4 (some .int) :: ([.fieldLink RX3 15 "RoomForms$Halves" "whole" "I", .fieldLink RX3 9 "RoomForms$Halves" "pieces" "[I"] ++ wsX30)
def wsX3_take : List Cond := .code yX3_take cX3_take 4 (some .int) :: ([.fieldLink RX3 19 "RoomForms$Halves" "room" "LRoomForms$Room;", .sameField "RoomForms$Halves" "RoomForms$Form" "room" "LRoomForms$Room;", .fieldLink RX3 9 "RoomForms$Halves" "pieces" "[I", .fieldLink RX3 15 "RoomForms$Halves" "whole" "I", .methodLink RX3 39 yX3_freeParts, .instanceMethod yX3_freeParts, .selects RX3 yX3_freeParts yX3_freeParts, .initialized RX3, .code yX3_freeParts cX3_freeParts 3 (some .int), .methodLink RX3 42 yX7_addLooked, .instanceMethod yX7_addLooked, .selects RX7 yX7_addLooked yX7_addLooked, .initialized RX7, .code yX7_addLooked cX7_addLooked 2 none, .fieldLink RX7 46 "RoomForms$Room" "looked" "I", .methodLink RX3 46 yX3_smallestPiece, .instanceMethod yX3_smallestPiece, .selects RX3 yX3_smallestPiece yX3_smallestPiece, .code yX3_smallestPiece cX3_smallestPiece 4 (some .int)] ++ wsX00 ++ wsX20 ++ wsX30 ++ wsX40 ++ wsX50 ++ wsX60 ++ wsX90 ++ wsX70)
def wsX3_takeBack : List Cond := .code yX3_takeBack cX3_takeBack 6 none :: ([.fieldLink RX3 15 "RoomForms$Halves" "whole" "I", .fieldLink RX3 9 "RoomForms$Halves" "pieces" "[I", .methodLink RX3 49 Lib.Math.min.name, .static Lib.Math.min.name, .initialized "java/lang/Math", .code Lib.Math.min.name Lib.Math.min.code 2 (some .int)] ++ wsX30)
def wsX10_init : List Cond := .code yX10_init cX10_init 3 none :: ([.methodLink RX10 3 objectInit, .instanceMethod objectInit, .code objectInit ⟨#[0xb1]⟩ 1 none, .fieldLink RX10 9 "RoomForms$Stretches" "size" "I", .fieldLink RX10 15 "RoomForms$Stretches" "looked" "I", .methodLink RX10 18 Lib.Math.max.name, .static Lib.Math.max.name, .initialized "java/lang/Math", .code Lib.Math.max.name Lib.Math.max.code 2 (some .int), .arrayClass .int, .fieldLink RX10 24 "RoomForms$Stretches" "places" "[I", .fieldLink RX10 28 "RoomForms$Stretches" "words" "[I"] ++ wsX100)
def wsX4_init_r1 : List Cond := [Cond.classLink RX4 9 RX10, Cond.instantiable RX10 4, Cond.initialized RX10, Cond.fieldLink RX4 14 "RoomForms$Levels" "runs" "LRoomForms$Stretches;", Cond.methodLink RX4 3 yX1_init, Cond.instanceMethod yX1_init, Cond.initialized RX1, Cond.code yX1_init cX1_init 2 none, Cond.methodLink RX1 3 objectInit, Cond.instanceMethod objectInit, Cond.code objectInit ⟨#[0xb1]⟩ 1 none, Cond.fieldLink RX1 9 "RoomForms$Form" "room" "LRoomForms$Room;", Cond.methodLink RX4 11 yX10_init, Cond.instanceMethod yX10_init, Cond.code yX10_init cX10_init 3 none, Cond.methodLink RX10 3 objectInit, Cond.fieldLink RX10 9 "RoomForms$Stretches" "size" "I", Cond.fieldLink RX10 15 "RoomForms$Stretches" "looked" "I", Cond.methodLink RX10 18 Lib.Math.max.name, Cond.static Lib.Math.max.name, Cond.initialized "java/lang/Math", Cond.code Lib.Math.max.name Lib.Math.max.code 2 (some .int), Cond.arrayClass .int, Cond.fieldLink RX10 24 "RoomForms$Stretches" "places" "[I"]
def wsX4_init_r2 : List Cond := [Cond.fieldLink RX10 28 "RoomForms$Stretches" "words" "[I"]
def wsX4_init : List Cond := .code yX4_init cX4_init 2 none :: ((wsX4_init_r1 ++ wsX4_init_r2) ++ wsX100 ++ wsX40 ++ wsX00 ++ wsX20 ++ wsX30 ++ wsX50 ++ wsX60 ++ wsX90)
def wsX4_begin : List Cond := .code yX4_begin cX4_begin 1 none :: ([.fieldLink RX4 14 "RoomForms$Levels" "runs" "LRoomForms$Stretches;", .fieldLink RX4 24 "RoomForms$Levels" "room" "LRoomForms$Room;", .sameField "RoomForms$Levels" "RoomForms$Form" "room" "LRoomForms$Room;", .methodLink RX4 20 yX10_clear, .instanceMethod yX10_clear, .selects RX10 yX10_clear yX10_clear, .initialized RX10, .code yX10_clear cX10_clear 1 none, .fieldLink RX10 9 "RoomForms$Stretches" "size" "I", .methodLink RX4 28 yX7_words, .instanceMethod yX7_words, .selects RX7 yX7_words yX7_words, .initialized RX7, .code yX7_words cX7_words 1 (some .int), .fieldLink RX7 36 "RoomForms$Room" "words" "I", .methodLink RX4 34 yX10_add, .instanceMethod yX10_add, .selects RX10 yX10_add yX10_add, .code yX10_add cX10_add 3 none, .fieldLink RX10 24 "RoomForms$Stretches" "places" "[I", .fieldLink RX10 28 "RoomForms$Stretches" "words" "[I"] ++ wsX40 ++ wsX00 ++ wsX20 ++ wsX30 ++ wsX50 ++ wsX60 ++ wsX90 ++ wsX100 ++ wsX70)
def wsX4_listOf : List Cond := .code yX4_listOf cX4_listOf 4 (some .int) :: ([])
def wsX10_size : List Cond := .code yX10_size cX10_size 1 (some .int) :: ([.fieldLink RX10 9 "RoomForms$Stretches" "size" "I"] ++ wsX100)
def wsX10_wordsOf : List Cond := .code yX10_wordsOf cX10_wordsOf 2 (some .int) :: ([.fieldLink RX10 9 "RoomForms$Stretches" "size" "I", .fieldLink RX10 28 "RoomForms$Stretches" "words" "[I"] ++ wsX100)
def wsX4_findInListOf : List Cond := .code yX4_findInListOf cX4_findInListOf 4 (some .int) :: ([.fieldLink RX4 14 "RoomForms$Levels" "runs" "LRoomForms$Stretches;", .fieldLink RX4 24 "RoomForms$Levels" "room" "LRoomForms$Room;", .sameField "RoomForms$Levels" "RoomForms$Form" "room" "LRoomForms$Room;", .methodLink RX4 42 yX4_listOf, .static yX4_listOf, .initialized RX4, .code yX4_listOf cX4_listOf 4 (some .int), .methodLink RX4 57 yX10_size, .instanceMethod yX10_size, .selects RX10 yX10_size yX10_size, .initialized RX10, .code yX10_size cX10_size 1 (some .int), .fieldLink RX10 9 "RoomForms$Stretches" "size" "I", .methodLink RX4 51 yX10_wordsOf, .instanceMethod yX10_wordsOf, .selects RX10 yX10_wordsOf yX10_wordsOf, .code yX10_wordsOf cX10_wordsOf 2 (some .int), .fieldLink RX10 28 "RoomForms$Stretches" "words" "[I", .methodLink RX4 60 yX7_addLooked, .instanceMethod yX7_addLooked, .selects RX7 yX7_addLooked yX7_addLooked, .initialized RX7, .code yX7_addLooked cX7_addLooked 2 none, .fieldLink RX7 46 "RoomForms$Room" "looked" "I"] ++ wsX40 ++ wsX00 ++ wsX20 ++ wsX30 ++ wsX50 ++ wsX60 ++ wsX90 ++ wsX100 ++ wsX70)
def wsX4_firstOfLaterList : List Cond := .code yX4_firstOfLaterList cX4_firstOfLaterList 6 (some .int) :: ([.fieldLink RX4 14 "RoomForms$Levels" "runs" "LRoomForms$Stretches;", .methodLink RX4 57 yX10_size, .instanceMethod yX10_size, .selects RX10 yX10_size yX10_size, .initialized RX10, .code yX10_size cX10_size 1 (some .int), .fieldLink RX10 9 "RoomForms$Stretches" "size" "I", .methodLink RX4 51 yX10_wordsOf, .instanceMethod yX10_wordsOf, .selects RX10 yX10_wordsOf yX10_wordsOf, .code yX10_wordsOf cX10_wordsOf 2 (some .int), .fieldLink RX10 28 "RoomForms$Stretches" "words" "[I", .methodLink RX4 42 yX4_listOf, .static yX4_listOf, .initialized RX4, .code yX4_listOf cX4_listOf 4 (some .int)] ++ wsX40 ++ wsX100)
def wsX10_remove : List Cond := .code yX10_remove cX10_remove 2 none :: ([.fieldLink RX10 9 "RoomForms$Stretches" "size" "I", .fieldLink RX10 24 "RoomForms$Stretches" "places" "[I", .methodLink RX10 31 arraycopyName, .native arraycopyName, .static arraycopyName, .initialized "java/lang/System", .fieldLink RX10 28 "RoomForms$Stretches" "words" "[I"] ++ wsX100)
def wsX4_take_r1 : List Cond := [Cond.fieldLink RX4 14 "RoomForms$Levels" "runs" "LRoomForms$Stretches;", Cond.methodLink RX4 38 yX4_findInListOf, Cond.instanceMethod yX4_findInListOf, Cond.selects RX4 yX4_findInListOf yX4_findInListOf, Cond.initialized RX4, Cond.code yX4_findInListOf cX4_findInListOf 4 (some .int), Cond.fieldLink RX4 24 "RoomForms$Levels" "room" "LRoomForms$Room;", Cond.sameField "RoomForms$Levels" "RoomForms$Form" "room" "LRoomForms$Room;", Cond.methodLink RX4 42 yX4_listOf, Cond.static yX4_listOf, Cond.code yX4_listOf cX4_listOf 4 (some .int), Cond.methodLink RX4 57 yX10_size, Cond.instanceMethod yX10_size, Cond.selects RX10 yX10_size yX10_size, Cond.initialized RX10, Cond.code yX10_size cX10_size 1 (some .int), Cond.fieldLink RX10 9 "RoomForms$Stretches" "size" "I", Cond.methodLink RX4 51 yX10_wordsOf, Cond.instanceMethod yX10_wordsOf, Cond.selects RX10 yX10_wordsOf yX10_wordsOf, Cond.code yX10_wordsOf cX10_wordsOf 2 (some .int), Cond.fieldLink RX10 28 "RoomForms$Stretches" "words" "[I", Cond.methodLink RX4 60 yX7_addLooked, Cond.instanceMethod yX7_addLooked]
def wsX4_take_r2 : List Cond := [Cond.selects RX7 yX7_addLooked yX7_addLooked, Cond.initialized RX7, Cond.code yX7_addLooked cX7_addLooked 2 none, Cond.fieldLink RX7 46 "RoomForms$Room" "looked" "I", Cond.methodLink RX4 45 yX4_firstOfLaterList, Cond.instanceMethod yX4_firstOfLaterList, Cond.selects RX4 yX4_firstOfLaterList yX4_firstOfLaterList, Cond.code yX4_firstOfLaterList cX4_firstOfLaterList 6 (some .int), Cond.methodLink RX4 48 yX10_placeOf, Cond.instanceMethod yX10_placeOf, Cond.selects RX10 yX10_placeOf yX10_placeOf, Cond.code yX10_placeOf cX10_placeOf 2 (some .int), Cond.fieldLink RX10 24 "RoomForms$Stretches" "places" "[I", Cond.methodLink RX4 54 yX10_remove, Cond.instanceMethod yX10_remove, Cond.selects RX10 yX10_remove yX10_remove, Cond.code yX10_remove cX10_remove 2 none, Cond.methodLink RX10 31 arraycopyName, Cond.native arraycopyName, Cond.static arraycopyName, Cond.initialized "java/lang/System", Cond.methodLink RX4 34 yX10_add, Cond.instanceMethod yX10_add, Cond.selects RX10 yX10_add yX10_add]
def wsX4_take_r3 : List Cond := [Cond.code yX10_add cX10_add 3 none]
def wsX4_take : List Cond := .code yX4_take cX4_take 5 (some .int) :: ((wsX4_take_r1 ++ (wsX4_take_r2 ++ wsX4_take_r3)) ++ wsX40 ++ wsX00 ++ wsX20 ++ wsX30 ++ wsX50 ++ wsX60 ++ wsX90 ++ wsX100 ++ wsX70)
def wsX10_endOf : List Cond := .code yX10_endOf cX10_endOf 2 (some .int) :: ([.fieldLink RX10 9 "RoomForms$Stretches" "size" "I", .fieldLink RX10 24 "RoomForms$Stretches" "places" "[I", .fieldLink RX10 28 "RoomForms$Stretches" "words" "[I"] ++ wsX100)
def wsX4_takeBack_r1 : List Cond := [Cond.fieldLink RX4 14 "RoomForms$Levels" "runs" "LRoomForms$Stretches;", Cond.methodLink RX4 57 yX10_size, Cond.instanceMethod yX10_size, Cond.selects RX10 yX10_size yX10_size, Cond.initialized RX10, Cond.code yX10_size cX10_size 1 (some .int), Cond.fieldLink RX10 9 "RoomForms$Stretches" "size" "I", Cond.methodLink RX4 63 yX10_endOf, Cond.instanceMethod yX10_endOf, Cond.selects RX10 yX10_endOf yX10_endOf, Cond.code yX10_endOf cX10_endOf 2 (some .int), Cond.fieldLink RX10 24 "RoomForms$Stretches" "places" "[I", Cond.fieldLink RX10 28 "RoomForms$Stretches" "words" "[I", Cond.methodLink RX4 48 yX10_placeOf, Cond.instanceMethod yX10_placeOf, Cond.selects RX10 yX10_placeOf yX10_placeOf, Cond.code yX10_placeOf cX10_placeOf 2 (some .int), Cond.methodLink RX4 54 yX10_remove, Cond.instanceMethod yX10_remove, Cond.selects RX10 yX10_remove yX10_remove, Cond.code yX10_remove cX10_remove 2 none, Cond.methodLink RX10 31 arraycopyName, Cond.native arraycopyName, Cond.static arraycopyName]
def wsX4_takeBack_r2 : List Cond := [Cond.initialized "java/lang/System", Cond.methodLink RX4 34 yX10_add, Cond.instanceMethod yX10_add, Cond.selects RX10 yX10_add yX10_add, Cond.code yX10_add cX10_add 3 none]
def wsX4_takeBack : List Cond := .code yX4_takeBack cX4_takeBack 6 none :: ((wsX4_takeBack_r1 ++ wsX4_takeBack_r2) ++ wsX40 ++ wsX100)
def wsX4_placeInList : List Cond := .code yX4_placeInList cX4_placeInList 5 (some .int) :: ([.fieldLink RX4 14 "RoomForms$Levels" "runs" "LRoomForms$Stretches;", .methodLink RX4 57 yX10_size, .instanceMethod yX10_size, .selects RX10 yX10_size yX10_size, .initialized RX10, .code yX10_size cX10_size 1 (some .int), .fieldLink RX10 9 "RoomForms$Stretches" "size" "I", .methodLink RX4 51 yX10_wordsOf, .instanceMethod yX10_wordsOf, .selects RX10 yX10_wordsOf yX10_wordsOf, .code yX10_wordsOf cX10_wordsOf 2 (some .int), .fieldLink RX10 28 "RoomForms$Stretches" "words" "[I", .methodLink RX4 42 yX4_listOf, .static yX4_listOf, .initialized RX4, .code yX4_listOf cX4_listOf 4 (some .int), .methodLink RX4 48 yX10_placeOf, .instanceMethod yX10_placeOf, .selects RX10 yX10_placeOf yX10_placeOf, .code yX10_placeOf cX10_placeOf 2 (some .int), .fieldLink RX10 24 "RoomForms$Stretches" "places" "[I"] ++ wsX40 ++ wsX100)
def wsX5_init : List Cond := .code yX5_init cX5_init 2 none :: ([.arrayClass .int, .fieldLink RX5 11 "RoomForms$Pages" "spans" "[I", .fieldLink RX5 15 "RoomForms$Pages" "blocks" "[I", .fieldLink RX5 18 "RoomForms$Pages" "pages" "I", .methodLink RX5 3 yX1_init, .instanceMethod yX1_init, .initialized RX1, .code yX1_init cX1_init 2 none, .methodLink RX1 3 objectInit, .instanceMethod objectInit, .code objectInit ⟨#[0xb1]⟩ 1 none, .fieldLink RX1 9 "RoomForms$Form" "room" "LRoomForms$Room;"] ++ wsX50 ++ wsX00 ++ wsX20 ++ wsX30 ++ wsX40 ++ wsX60 ++ wsX90)
def wsX5_begin : List Cond := .code yX5_begin cX5_begin 1 none :: ([.fieldLink RX5 22 "RoomForms$Pages" "room" "LRoomForms$Room;", .sameField "RoomForms$Pages" "RoomForms$Form" "room" "LRoomForms$Room;", .fieldLink RX5 18 "RoomForms$Pages" "pages" "I", .fieldLink RX5 11 "RoomForms$Pages" "spans" "[I", .fieldLink RX5 15 "RoomForms$Pages" "blocks" "[I", .methodLink RX5 26 yX7_words, .instanceMethod yX7_words, .selects RX7 yX7_words yX7_words, .initialized RX7, .code yX7_words cX7_words 1 (some .int), .fieldLink RX7 36 "RoomForms$Room" "words" "I", .methodLink RX5 32 yJ7_fill_53178, .static yJ7_fill_53178, .initialized RJ7, .code yJ7_fill_53178 cJ7_fill_53178 4 none] ++ wsX00 ++ wsX20 ++ wsX30 ++ wsX40 ++ wsX50 ++ wsX60 ++ wsX90 ++ wsX70)
def wsX5_spanOf : List Cond := .code yX5_spanOf cX5_spanOf 2 (some .int) :: ([.static yX11_powerFrom, .initialized RX11, .code yX11_powerFrom cX11_powerFrom 2 (some .int)])
def wsX5_setPages : List Cond := .code yX5_setPages cX5_setPages 5 none :: ([.methodLink RX5 60 Lib.Math.max.name, .static Lib.Math.max.name, .initialized "java/lang/Math", .code Lib.Math.max.name Lib.Math.max.code 2 (some .int), .fieldLink RX5 18 "RoomForms$Pages" "pages" "I", .fieldLink RX5 11 "RoomForms$Pages" "spans" "[I", .fieldLink RX5 15 "RoomForms$Pages" "blocks" "[I"] ++ wsX50)
def wsX5_takeRow : List Cond := .code yX5_takeRow cX5_takeRow 6 (some .int) :: ([.fieldLink RX5 18 "RoomForms$Pages" "pages" "I", .fieldLink RX5 22 "RoomForms$Pages" "room" "LRoomForms$Room;", .sameField "RoomForms$Pages" "RoomForms$Form" "room" "LRoomForms$Room;", .fieldLink RX5 11 "RoomForms$Pages" "spans" "[I", .methodLink RX5 49 yX7_addLooked, .instanceMethod yX7_addLooked, .selects RX7 yX7_addLooked yX7_addLooked, .initialized RX7, .code yX7_addLooked cX7_addLooked 2 none, .fieldLink RX7 46 "RoomForms$Room" "looked" "I", .methodLink RX5 65 yX5_setPages, .instanceMethod yX5_setPages, .selects RX5 yX5_setPages yX5_setPages, .initialized RX5, .code yX5_setPages cX5_setPages 5 none, .methodLink RX5 60 Lib.Math.max.name, .static Lib.Math.max.name, .initialized "java/lang/Math", .code Lib.Math.max.name Lib.Math.max.code 2 (some .int), .fieldLink RX5 15 "RoomForms$Pages" "blocks" "[I"] ++ wsX50 ++ wsX00 ++ wsX20 ++ wsX30 ++ wsX40 ++ wsX60 ++ wsX90 ++ wsX70)
def wsX5_freePlaceIn : List Cond := .code yX5_freePlaceIn cX5_freePlaceIn 5 (some .int) :: ([.fieldLink RX5 22 "RoomForms$Pages" "room" "LRoomForms$Room;", .sameField "RoomForms$Pages" "RoomForms$Form" "room" "LRoomForms$Room;", .methodLink RX5 60 Lib.Math.max.name, .static Lib.Math.max.name, .initialized "java/lang/Math", .code Lib.Math.max.name Lib.Math.max.code 2 (some .int), .methodLink RX5 56 yX7_isFree, .instanceMethod yX7_isFree, .selects RX7 yX7_isFree yX7_isFree, .initialized RX7, .code yX7_isFree cX7_isFree 2 (some .boolean), .fieldLink RX7 36 "RoomForms$Room" "words" "I", .fieldLink RX7 9 "RoomForms$Room" "owners" "[I"] ++ wsX00 ++ wsX20 ++ wsX30 ++ wsX40 ++ wsX50 ++ wsX60 ++ wsX90 ++ wsX70)
def wsX5_takeInPageOf_r1 : List Cond := [Cond.fieldLink RX5 18 "RoomForms$Pages" "pages" "I", Cond.fieldLink RX5 11 "RoomForms$Pages" "spans" "[I", Cond.fieldLink RX5 22 "RoomForms$Pages" "room" "LRoomForms$Room;", Cond.sameField "RoomForms$Pages" "RoomForms$Form" "room" "LRoomForms$Room;", Cond.fieldLink RX5 15 "RoomForms$Pages" "blocks" "[I", Cond.methodLink RX5 49 yX7_addLooked, Cond.instanceMethod yX7_addLooked, Cond.selects RX7 yX7_addLooked yX7_addLooked, Cond.initialized RX7, Cond.code yX7_addLooked cX7_addLooked 2 none, Cond.fieldLink RX7 46 "RoomForms$Room" "looked" "I", Cond.methodLink RX5 53 yX5_freePlaceIn, Cond.instanceMethod yX5_freePlaceIn, Cond.selects RX5 yX5_freePlaceIn yX5_freePlaceIn, Cond.initialized RX5, Cond.code yX5_freePlaceIn cX5_freePlaceIn 5 (some .int), Cond.methodLink RX5 60 Lib.Math.max.name, Cond.static Lib.Math.max.name, Cond.initialized "java/lang/Math", Cond.code Lib.Math.max.name Lib.Math.max.code 2 (some .int), Cond.methodLink RX5 56 yX7_isFree, Cond.instanceMethod yX7_isFree, Cond.selects RX7 yX7_isFree yX7_isFree, Cond.code yX7_isFree cX7_isFree 2 (some .boolean)]
def wsX5_takeInPageOf_r2 : List Cond := [Cond.fieldLink RX7 36 "RoomForms$Room" "words" "I", Cond.fieldLink RX7 9 "RoomForms$Room" "owners" "[I"]
def wsX5_takeInPageOf : List Cond := .code yX5_takeInPageOf cX5_takeInPageOf 4 (some .int) :: ((wsX5_takeInPageOf_r1 ++ wsX5_takeInPageOf_r2) ++ wsX50 ++ wsX00 ++ wsX20 ++ wsX30 ++ wsX40 ++ wsX60 ++ wsX90 ++ wsX70)
def wsX5_take_r1 : List Cond := [Cond.methodLink RX5 42 yX5_takeRow, Cond.instanceMethod yX5_takeRow, Cond.selects RX5 yX5_takeRow yX5_takeRow, Cond.initialized RX5, Cond.code yX5_takeRow cX5_takeRow 6 (some .int), Cond.fieldLink RX5 18 "RoomForms$Pages" "pages" "I", Cond.fieldLink RX5 22 "RoomForms$Pages" "room" "LRoomForms$Room;", Cond.sameField "RoomForms$Pages" "RoomForms$Form" "room" "LRoomForms$Room;", Cond.fieldLink RX5 11 "RoomForms$Pages" "spans" "[I", Cond.methodLink RX5 49 yX7_addLooked, Cond.instanceMethod yX7_addLooked, Cond.selects RX7 yX7_addLooked yX7_addLooked, Cond.initialized RX7, Cond.code yX7_addLooked cX7_addLooked 2 none, Cond.fieldLink RX7 46 "RoomForms$Room" "looked" "I", Cond.methodLink RX5 65 yX5_setPages, Cond.instanceMethod yX5_setPages, Cond.selects RX5 yX5_setPages yX5_setPages, Cond.code yX5_setPages cX5_setPages 5 none, Cond.methodLink RX5 60 Lib.Math.max.name, Cond.static Lib.Math.max.name, Cond.initialized "java/lang/Math", Cond.code Lib.Math.max.name Lib.Math.max.code 2 (some .int), Cond.fieldLink RX5 15 "RoomForms$Pages" "blocks" "[I"]
def wsX5_take_r2 : List Cond := [Cond.methodLink RX5 46 yX5_takeInPageOf, Cond.instanceMethod yX5_takeInPageOf, Cond.selects RX5 yX5_takeInPageOf yX5_takeInPageOf, Cond.code yX5_takeInPageOf cX5_takeInPageOf 4 (some .int), Cond.methodLink RX5 53 yX5_freePlaceIn, Cond.instanceMethod yX5_freePlaceIn, Cond.selects RX5 yX5_freePlaceIn yX5_freePlaceIn, Cond.code yX5_freePlaceIn cX5_freePlaceIn 5 (some .int), Cond.methodLink RX5 56 yX7_isFree, Cond.instanceMethod yX7_isFree, Cond.selects RX7 yX7_isFree yX7_isFree, Cond.code yX7_isFree cX7_isFree 2 (some .boolean), Cond.fieldLink RX7 36 "RoomForms$Room" "words" "I", Cond.fieldLink RX7 9 "RoomForms$Room" "owners" "[I"]
def wsX5_take : List Cond := .code yX5_take cX5_take 3 (some .int) :: ((wsX5_take_r1 ++ wsX5_take_r2) ++ wsX50 ++ wsX00 ++ wsX20 ++ wsX30 ++ wsX40 ++ wsX60 ++ wsX90 ++ wsX70)
def wsX5_takeBack : List Cond := .code yX5_takeBack cX5_takeBack 4 none :: ([.fieldLink RX5 18 "RoomForms$Pages" "pages" "I", .fieldLink RX5 15 "RoomForms$Pages" "blocks" "[I", .methodLink RX5 65 yX5_setPages, .instanceMethod yX5_setPages, .selects RX5 yX5_setPages yX5_setPages, .initialized RX5, .code yX5_setPages cX5_setPages 5 none, .methodLink RX5 60 Lib.Math.max.name, .static Lib.Math.max.name, .initialized "java/lang/Math", .code Lib.Math.max.name Lib.Math.max.code 2 (some .int), .fieldLink RX5 11 "RoomForms$Pages" "spans" "[I"] ++ wsX50)
def wsX5_freeParts : List Cond := .code yX5_freeParts cX5_freeParts 3 (some .int) :: ([.fieldLink RX5 18 "RoomForms$Pages" "pages" "I", .fieldLink RX5 11 "RoomForms$Pages" "spans" "[I"] ++ wsX50)
def wsX6_init_r1 : List Cond := [Cond.classLink RX6 9 RX10, Cond.instantiable RX10 4, Cond.initialized RX10, Cond.fieldLink RX6 14 "RoomForms$Quick" "quick" "LRoomForms$Stretches;", Cond.methodLink RX6 3 yX1_init, Cond.instanceMethod yX1_init, Cond.initialized RX1, Cond.code yX1_init cX1_init 2 none, Cond.methodLink RX1 3 objectInit, Cond.instanceMethod objectInit, Cond.code objectInit ⟨#[0xb1]⟩ 1 none, Cond.fieldLink RX1 9 "RoomForms$Form" "room" "LRoomForms$Room;", Cond.methodLink RX6 11 yX10_init, Cond.instanceMethod yX10_init, Cond.code yX10_init cX10_init 3 none, Cond.methodLink RX10 3 objectInit, Cond.fieldLink RX10 9 "RoomForms$Stretches" "size" "I", Cond.fieldLink RX10 15 "RoomForms$Stretches" "looked" "I", Cond.methodLink RX10 18 Lib.Math.max.name, Cond.static Lib.Math.max.name, Cond.initialized "java/lang/Math", Cond.code Lib.Math.max.name Lib.Math.max.code 2 (some .int), Cond.arrayClass .int, Cond.fieldLink RX10 24 "RoomForms$Stretches" "places" "[I"]
def wsX6_init_r2 : List Cond := [Cond.fieldLink RX10 28 "RoomForms$Stretches" "words" "[I"]
def wsX6_init : List Cond := .code yX6_init cX6_init 2 none :: ((wsX6_init_r1 ++ wsX6_init_r2) ++ wsX100 ++ wsX60 ++ wsX00 ++ wsX20 ++ wsX30 ++ wsX40 ++ wsX50 ++ wsX90)
def wsX6_begin : List Cond := .code yX6_begin cX6_begin 1 none :: ([.fieldLink RX6 14 "RoomForms$Quick" "quick" "LRoomForms$Stretches;", .methodLink RX6 20 yX10_clear, .instanceMethod yX10_clear, .selects RX10 yX10_clear yX10_clear, .initialized RX10, .code yX10_clear cX10_clear 1 none, .fieldLink RX10 9 "RoomForms$Stretches" "size" "I"] ++ wsX60 ++ wsX100)
def wsX6_takeQuick_r1 : List Cond := [Cond.fieldLink RX6 14 "RoomForms$Quick" "quick" "LRoomForms$Stretches;", Cond.methodLink RX6 34 yX10_size, Cond.instanceMethod yX10_size, Cond.selects RX10 yX10_size yX10_size, Cond.initialized RX10, Cond.code yX10_size cX10_size 1 (some .int), Cond.fieldLink RX10 9 "RoomForms$Stretches" "size" "I", Cond.methodLink RX6 38 yX10_wordsOf, Cond.instanceMethod yX10_wordsOf, Cond.selects RX10 yX10_wordsOf yX10_wordsOf, Cond.code yX10_wordsOf cX10_wordsOf 2 (some .int), Cond.fieldLink RX10 28 "RoomForms$Stretches" "words" "[I", Cond.methodLink RX6 41 yX10_placeOf, Cond.instanceMethod yX10_placeOf, Cond.selects RX10 yX10_placeOf yX10_placeOf, Cond.code yX10_placeOf cX10_placeOf 2 (some .int), Cond.fieldLink RX10 24 "RoomForms$Stretches" "places" "[I", Cond.methodLink RX6 44 yX10_remove, Cond.instanceMethod yX10_remove, Cond.selects RX10 yX10_remove yX10_remove, Cond.code yX10_remove cX10_remove 2 none, Cond.methodLink RX10 31 arraycopyName, Cond.native arraycopyName, Cond.static arraycopyName]
def wsX6_takeQuick_r2 : List Cond := [Cond.initialized "java/lang/System"]
def wsX6_takeQuick : List Cond := .code yX6_takeQuick cX6_takeQuick 4 (some .int) :: ((wsX6_takeQuick_r1 ++ wsX6_takeQuick_r2) ++ wsX60 ++ wsX100)
def wsX6_takeFirst_r1 : List Cond := [Cond.fieldLink RX6 47 "RoomForms$Quick" "room" "LRoomForms$Room;", Cond.sameField "RoomForms$Quick" "RoomForms$Form" "room" "LRoomForms$Room;", Cond.methodLink RX6 51 yX7_listRuns, Cond.instanceMethod yX7_listRuns, Cond.selects RX7 yX7_listRuns yX7_listRuns, Cond.initialized RX7, Cond.code yX7_listRuns cX7_listRuns 3 (some (.object "RoomForms$Stretches")), Cond.fieldLink RX7 32 "RoomForms$Room" "runs" "LRoomForms$Stretches;", Cond.fieldLink RX7 36 "RoomForms$Room" "words" "I", Cond.methodLink RX7 68 yX10_clear, Cond.instanceMethod yX10_clear, Cond.selects RX10 yX10_clear yX10_clear, Cond.initialized RX10, Cond.code yX10_clear cX10_clear 1 none, Cond.fieldLink RX10 9 "RoomForms$Stretches" "size" "I", Cond.methodLink RX7 71 yX7_isFree, Cond.instanceMethod yX7_isFree, Cond.selects RX7 yX7_isFree yX7_isFree, Cond.code yX7_isFree cX7_isFree 2 (some .boolean), Cond.fieldLink RX7 9 "RoomForms$Room" "owners" "[I", Cond.methodLink RX7 75 yX10_add, Cond.instanceMethod yX10_add, Cond.selects RX10 yX10_add yX10_add, Cond.code yX10_add cX10_add 3 none]
def wsX6_takeFirst_r2 : List Cond := [Cond.fieldLink RX10 24 "RoomForms$Stretches" "places" "[I", Cond.fieldLink RX10 28 "RoomForms$Stretches" "words" "[I", Cond.methodLink RX6 57 yX10_find, Cond.instanceMethod yX10_find, Cond.selects RX10 yX10_find yX10_find, Cond.code yX10_find cX10_find 4 (some .int), Cond.fieldLink RX10 15 "RoomForms$Stretches" "looked" "I", Cond.methodLink RX10 37 yX10_nextFit, Cond.instanceMethod yX10_nextFit, Cond.selects RX10 yX10_nextFit yX10_nextFit, Cond.code yX10_nextFit cX10_nextFit 6 (some .int), Cond.methodLink RX10 18 Lib.Math.max.name, Cond.static Lib.Math.max.name, Cond.initialized "java/lang/Math", Cond.code Lib.Math.max.name Lib.Math.max.code 2 (some .int), Cond.methodLink RX10 40 yX10_bestFit, Cond.instanceMethod yX10_bestFit, Cond.selects RX10 yX10_bestFit yX10_bestFit, Cond.code yX10_bestFit cX10_bestFit 4 (some .int), Cond.methodLink RX10 50 yX10_placeOf, Cond.instanceMethod yX10_placeOf, Cond.selects RX10 yX10_placeOf yX10_placeOf, Cond.code yX10_placeOf cX10_placeOf 2 (some .int), Cond.methodLink RX10 44 yX10_greatestFit]
def wsX6_takeFirst_r3 : List Cond := [Cond.instanceMethod yX10_greatestFit, Cond.selects RX10 yX10_greatestFit yX10_greatestFit, Cond.code yX10_greatestFit cX10_greatestFit 4 (some .int), Cond.methodLink RX10 47 yX10_firstFit, Cond.instanceMethod yX10_firstFit, Cond.selects RX10 yX10_firstFit yX10_firstFit, Cond.code yX10_firstFit cX10_firstFit 3 (some .int), Cond.methodLink RX6 61 yX10_looked, Cond.instanceMethod yX10_looked, Cond.selects RX10 yX10_looked yX10_looked, Cond.code yX10_looked cX10_looked 1 (some .int), Cond.methodLink RX6 64 yX7_addLooked, Cond.instanceMethod yX7_addLooked, Cond.selects RX7 yX7_addLooked yX7_addLooked, Cond.code yX7_addLooked cX7_addLooked 2 none, Cond.fieldLink RX7 46 "RoomForms$Room" "looked" "I"]
def wsX6_takeFirst : List Cond := .code yX6_takeFirst cX6_takeFirst 4 (some .int) :: ((wsX6_takeFirst_r1 ++ (wsX6_takeFirst_r2 ++ wsX6_takeFirst_r3)) ++ wsX00 ++ wsX20 ++ wsX30 ++ wsX40 ++ wsX50 ++ wsX60 ++ wsX90 ++ wsX70 ++ wsX100)
def wsX7_mark : List Cond := .code yX7_mark cX7_mark 6 none :: ([.fieldLink RX7 36 "RoomForms$Room" "words" "I", .methodLink RX7 55 Lib.Math.min.name, .static Lib.Math.min.name, .initialized "java/lang/Math", .code Lib.Math.min.name Lib.Math.min.code 2 (some .int), .methodLink RX7 49 Lib.Math.max.name, .static Lib.Math.max.name, .code Lib.Math.max.name Lib.Math.max.code 2 (some .int), .fieldLink RX7 9 "RoomForms$Room" "owners" "[I"] ++ wsX70)
def wsX7_markFree : List Cond := .code yX7_markFree cX7_markFree 3 none :: ([.methodLink RX7 64 yX7_mark, .instanceMethod yX7_mark, .selects RX7 yX7_mark yX7_mark, .initialized RX7, .code yX7_mark cX7_mark 6 none, .fieldLink RX7 36 "RoomForms$Room" "words" "I", .methodLink RX7 55 Lib.Math.min.name, .static Lib.Math.min.name, .initialized "java/lang/Math", .code Lib.Math.min.name Lib.Math.min.code 2 (some .int), .methodLink RX7 49 Lib.Math.max.name, .static Lib.Math.max.name, .code Lib.Math.max.name Lib.Math.max.code 2 (some .int), .fieldLink RX7 9 "RoomForms$Room" "owners" "[I"] ++ wsX70)
def wsX6_emptyRows_r1 : List Cond := [Cond.fieldLink RX6 14 "RoomForms$Quick" "quick" "LRoomForms$Stretches;", Cond.fieldLink RX6 47 "RoomForms$Quick" "room" "LRoomForms$Room;", Cond.sameField "RoomForms$Quick" "RoomForms$Form" "room" "LRoomForms$Room;", Cond.methodLink RX6 34 yX10_size, Cond.instanceMethod yX10_size, Cond.selects RX10 yX10_size yX10_size, Cond.initialized RX10, Cond.code yX10_size cX10_size 1 (some .int), Cond.fieldLink RX10 9 "RoomForms$Stretches" "size" "I", Cond.methodLink RX6 41 yX10_placeOf, Cond.instanceMethod yX10_placeOf, Cond.selects RX10 yX10_placeOf yX10_placeOf, Cond.code yX10_placeOf cX10_placeOf 2 (some .int), Cond.fieldLink RX10 24 "RoomForms$Stretches" "places" "[I", Cond.methodLink RX6 38 yX10_wordsOf, Cond.instanceMethod yX10_wordsOf, Cond.selects RX10 yX10_wordsOf yX10_wordsOf, Cond.code yX10_wordsOf cX10_wordsOf 2 (some .int), Cond.fieldLink RX10 28 "RoomForms$Stretches" "words" "[I", Cond.methodLink RX6 67 yX7_markFree, Cond.instanceMethod yX7_markFree, Cond.selects RX7 yX7_markFree yX7_markFree, Cond.initialized RX7, Cond.code yX7_markFree cX7_markFree 3 none]
def wsX6_emptyRows_r2 : List Cond := [Cond.methodLink RX7 64 yX7_mark, Cond.instanceMethod yX7_mark, Cond.selects RX7 yX7_mark yX7_mark, Cond.code yX7_mark cX7_mark 6 none, Cond.fieldLink RX7 36 "RoomForms$Room" "words" "I", Cond.methodLink RX7 55 Lib.Math.min.name, Cond.static Lib.Math.min.name, Cond.initialized "java/lang/Math", Cond.code Lib.Math.min.name Lib.Math.min.code 2 (some .int), Cond.methodLink RX7 49 Lib.Math.max.name, Cond.static Lib.Math.max.name, Cond.code Lib.Math.max.name Lib.Math.max.code 2 (some .int), Cond.fieldLink RX7 9 "RoomForms$Room" "owners" "[I", Cond.methodLink RX6 20 yX10_clear, Cond.instanceMethod yX10_clear, Cond.selects RX10 yX10_clear yX10_clear, Cond.code yX10_clear cX10_clear 1 none]
def wsX6_emptyRows : List Cond := .code yX6_emptyRows cX6_emptyRows 2 none :: ((wsX6_emptyRows_r1 ++ wsX6_emptyRows_r2) ++ wsX60 ++ wsX00 ++ wsX20 ++ wsX30 ++ wsX40 ++ wsX50 ++ wsX90 ++ wsX100 ++ wsX70)
def wsX6_take_r1 : List Cond := [Cond.methodLink RX6 24 yX6_takeQuick, Cond.instanceMethod yX6_takeQuick, Cond.selects RX6 yX6_takeQuick yX6_takeQuick, Cond.initialized RX6, Cond.code yX6_takeQuick cX6_takeQuick 4 (some .int), Cond.fieldLink RX6 14 "RoomForms$Quick" "quick" "LRoomForms$Stretches;", Cond.methodLink RX6 34 yX10_size, Cond.instanceMethod yX10_size, Cond.selects RX10 yX10_size yX10_size, Cond.initialized RX10, Cond.code yX10_size cX10_size 1 (some .int), Cond.fieldLink RX10 9 "RoomForms$Stretches" "size" "I", Cond.methodLink RX6 38 yX10_wordsOf, Cond.instanceMethod yX10_wordsOf, Cond.selects RX10 yX10_wordsOf yX10_wordsOf, Cond.code yX10_wordsOf cX10_wordsOf 2 (some .int), Cond.fieldLink RX10 28 "RoomForms$Stretches" "words" "[I", Cond.methodLink RX6 41 yX10_placeOf, Cond.instanceMethod yX10_placeOf, Cond.selects RX10 yX10_placeOf yX10_placeOf, Cond.code yX10_placeOf cX10_placeOf 2 (some .int), Cond.fieldLink RX10 24 "RoomForms$Stretches" "places" "[I", Cond.methodLink RX6 44 yX10_remove, Cond.instanceMethod yX10_remove]
def wsX6_take_r2 : List Cond := [Cond.selects RX10 yX10_remove yX10_remove, Cond.code yX10_remove cX10_remove 2 none, Cond.methodLink RX10 31 arraycopyName, Cond.native arraycopyName, Cond.static arraycopyName, Cond.initialized "java/lang/System", Cond.methodLink RX6 28 yX6_takeFirst, Cond.instanceMethod yX6_takeFirst, Cond.selects RX6 yX6_takeFirst yX6_takeFirst, Cond.code yX6_takeFirst cX6_takeFirst 4 (some .int), Cond.fieldLink RX6 47 "RoomForms$Quick" "room" "LRoomForms$Room;", Cond.sameField "RoomForms$Quick" "RoomForms$Form" "room" "LRoomForms$Room;", Cond.methodLink RX6 51 yX7_listRuns, Cond.instanceMethod yX7_listRuns, Cond.selects RX7 yX7_listRuns yX7_listRuns, Cond.initialized RX7, Cond.code yX7_listRuns cX7_listRuns 3 (some (.object "RoomForms$Stretches")), Cond.fieldLink RX7 32 "RoomForms$Room" "runs" "LRoomForms$Stretches;", Cond.fieldLink RX7 36 "RoomForms$Room" "words" "I", Cond.methodLink RX7 68 yX10_clear, Cond.instanceMethod yX10_clear, Cond.selects RX10 yX10_clear yX10_clear, Cond.code yX10_clear cX10_clear 1 none, Cond.methodLink RX7 71 yX7_isFree]
def wsX6_take_r3 : List Cond := [Cond.instanceMethod yX7_isFree, Cond.selects RX7 yX7_isFree yX7_isFree, Cond.code yX7_isFree cX7_isFree 2 (some .boolean), Cond.fieldLink RX7 9 "RoomForms$Room" "owners" "[I", Cond.methodLink RX7 75 yX10_add, Cond.instanceMethod yX10_add, Cond.selects RX10 yX10_add yX10_add, Cond.code yX10_add cX10_add 3 none, Cond.methodLink RX6 57 yX10_find, Cond.instanceMethod yX10_find, Cond.selects RX10 yX10_find yX10_find, Cond.code yX10_find cX10_find 4 (some .int), Cond.fieldLink RX10 15 "RoomForms$Stretches" "looked" "I", Cond.methodLink RX10 37 yX10_nextFit, Cond.instanceMethod yX10_nextFit, Cond.selects RX10 yX10_nextFit yX10_nextFit, Cond.code yX10_nextFit cX10_nextFit 6 (some .int), Cond.methodLink RX10 18 Lib.Math.max.name, Cond.static Lib.Math.max.name, Cond.initialized "java/lang/Math", Cond.code Lib.Math.max.name Lib.Math.max.code 2 (some .int), Cond.methodLink RX10 40 yX10_bestFit, Cond.instanceMethod yX10_bestFit, Cond.selects RX10 yX10_bestFit yX10_bestFit]
def wsX6_take_r4 : List Cond := [Cond.code yX10_bestFit cX10_bestFit 4 (some .int), Cond.methodLink RX10 50 yX10_placeOf, Cond.methodLink RX10 44 yX10_greatestFit, Cond.instanceMethod yX10_greatestFit, Cond.selects RX10 yX10_greatestFit yX10_greatestFit, Cond.code yX10_greatestFit cX10_greatestFit 4 (some .int), Cond.methodLink RX10 47 yX10_firstFit, Cond.instanceMethod yX10_firstFit, Cond.selects RX10 yX10_firstFit yX10_firstFit, Cond.code yX10_firstFit cX10_firstFit 3 (some .int), Cond.methodLink RX6 61 yX10_looked, Cond.instanceMethod yX10_looked, Cond.selects RX10 yX10_looked yX10_looked, Cond.code yX10_looked cX10_looked 1 (some .int), Cond.methodLink RX6 64 yX7_addLooked, Cond.instanceMethod yX7_addLooked, Cond.selects RX7 yX7_addLooked yX7_addLooked, Cond.code yX7_addLooked cX7_addLooked 2 none, Cond.fieldLink RX7 46 "RoomForms$Room" "looked" "I", Cond.methodLink RX6 31 yX6_emptyRows, Cond.instanceMethod yX6_emptyRows, Cond.selects RX6 yX6_emptyRows yX6_emptyRows, Cond.code yX6_emptyRows cX6_emptyRows 2 none, Cond.methodLink RX6 67 yX7_markFree]
def wsX6_take_r5 : List Cond := [Cond.instanceMethod yX7_markFree, Cond.selects RX7 yX7_markFree yX7_markFree, Cond.code yX7_markFree cX7_markFree 3 none, Cond.methodLink RX7 64 yX7_mark, Cond.instanceMethod yX7_mark, Cond.selects RX7 yX7_mark yX7_mark, Cond.code yX7_mark cX7_mark 6 none, Cond.methodLink RX7 55 Lib.Math.min.name, Cond.static Lib.Math.min.name, Cond.code Lib.Math.min.name Lib.Math.min.code 2 (some .int), Cond.methodLink RX7 49 Lib.Math.max.name, Cond.methodLink RX6 20 yX10_clear]
def wsX6_take : List Cond := .code yX6_take cX6_take 3 (some .int) :: ((wsX6_take_r1 ++ (wsX6_take_r2 ++ (wsX6_take_r3 ++ (wsX6_take_r4 ++ wsX6_take_r5)))) ++ wsX60 ++ wsX100 ++ wsX00 ++ wsX20 ++ wsX30 ++ wsX40 ++ wsX50 ++ wsX90 ++ wsX70)
def wsX7_markQuick : List Cond := .code yX7_markQuick cX7_markQuick 3 none :: ([.methodLink RX7 64 yX7_mark, .instanceMethod yX7_mark, .selects RX7 yX7_mark yX7_mark, .initialized RX7, .code yX7_mark cX7_mark 6 none, .fieldLink RX7 36 "RoomForms$Room" "words" "I", .methodLink RX7 55 Lib.Math.min.name, .static Lib.Math.min.name, .initialized "java/lang/Math", .code Lib.Math.min.name Lib.Math.min.code 2 (some .int), .methodLink RX7 49 Lib.Math.max.name, .static Lib.Math.max.name, .code Lib.Math.max.name Lib.Math.max.code 2 (some .int), .fieldLink RX7 9 "RoomForms$Room" "owners" "[I"] ++ wsX70)
def wsX6_takeBack_r1 : List Cond := [Cond.fieldLink RX6 14 "RoomForms$Quick" "quick" "LRoomForms$Stretches;", Cond.fieldLink RX6 47 "RoomForms$Quick" "room" "LRoomForms$Room;", Cond.sameField "RoomForms$Quick" "RoomForms$Form" "room" "LRoomForms$Room;", Cond.methodLink RX6 71 yX10_add, Cond.instanceMethod yX10_add, Cond.selects RX10 yX10_add yX10_add, Cond.initialized RX10, Cond.code yX10_add cX10_add 3 none, Cond.fieldLink RX10 9 "RoomForms$Stretches" "size" "I", Cond.fieldLink RX10 24 "RoomForms$Stretches" "places" "[I", Cond.fieldLink RX10 28 "RoomForms$Stretches" "words" "[I", Cond.methodLink RX6 74 yX7_markQuick, Cond.instanceMethod yX7_markQuick, Cond.selects RX7 yX7_markQuick yX7_markQuick, Cond.initialized RX7, Cond.code yX7_markQuick cX7_markQuick 3 none, Cond.methodLink RX7 64 yX7_mark, Cond.instanceMethod yX7_mark, Cond.selects RX7 yX7_mark yX7_mark, Cond.code yX7_mark cX7_mark 6 none, Cond.fieldLink RX7 36 "RoomForms$Room" "words" "I", Cond.methodLink RX7 55 Lib.Math.min.name, Cond.static Lib.Math.min.name, Cond.initialized "java/lang/Math"]
def wsX6_takeBack_r2 : List Cond := [Cond.code Lib.Math.min.name Lib.Math.min.code 2 (some .int), Cond.methodLink RX7 49 Lib.Math.max.name, Cond.static Lib.Math.max.name, Cond.code Lib.Math.max.name Lib.Math.max.code 2 (some .int), Cond.fieldLink RX7 9 "RoomForms$Room" "owners" "[I"]
def wsX6_takeBack : List Cond := .code yX6_takeBack cX6_takeBack 3 none :: ((wsX6_takeBack_r1 ++ wsX6_takeBack_r2) ++ wsX60 ++ wsX00 ++ wsX20 ++ wsX30 ++ wsX40 ++ wsX50 ++ wsX90 ++ wsX100 ++ wsX70)
def wsX6_quickOnes : List Cond := .code yX6_quickOnes cX6_quickOnes 1 (some .int) :: ([.fieldLink RX6 14 "RoomForms$Quick" "quick" "LRoomForms$Stretches;", .methodLink RX6 34 yX10_size, .instanceMethod yX10_size, .selects RX10 yX10_size yX10_size, .initialized RX10, .code yX10_size cX10_size 1 (some .int), .fieldLink RX10 9 "RoomForms$Stretches" "size" "I"] ++ wsX60 ++ wsX100)
def wsX7_init_r1 : List Cond := [Cond.methodLink RX7 3 objectInit, Cond.instanceMethod objectInit, Cond.code objectInit ⟨#[0xb1]⟩ 1 none, Cond.arrayClass .int, Cond.fieldLink RX7 9 "RoomForms$Room" "owners" "[I", Cond.fieldLink RX7 15 "RoomForms$Room" "numbers" "[I", Cond.fieldLink RX7 18 "RoomForms$Room" "places" "[I", Cond.fieldLink RX7 21 "RoomForms$Room" "spans" "[I", Cond.fieldLink RX7 24 "RoomForms$Room" "asked" "[I", Cond.classLink RX7 27 RX10, Cond.instantiable RX10 4, Cond.initialized RX10, Cond.fieldLink RX7 32 "RoomForms$Room" "runs" "LRoomForms$Stretches;", Cond.fieldLink RX7 36 "RoomForms$Room" "words" "I", Cond.fieldLink RX7 40 "RoomForms$Room" "blocks" "I", Cond.fieldLink RX7 43 "RoomForms$Room" "given" "I", Cond.fieldLink RX7 46 "RoomForms$Room" "looked" "I", Cond.methodLink RX7 29 yX10_init, Cond.instanceMethod yX10_init, Cond.code yX10_init cX10_init 3 none, Cond.methodLink RX10 3 objectInit, Cond.fieldLink RX10 9 "RoomForms$Stretches" "size" "I", Cond.fieldLink RX10 15 "RoomForms$Stretches" "looked" "I", Cond.methodLink RX10 18 Lib.Math.max.name]
def wsX7_init_r2 : List Cond := [Cond.static Lib.Math.max.name, Cond.initialized "java/lang/Math", Cond.code Lib.Math.max.name Lib.Math.max.code 2 (some .int), Cond.fieldLink RX10 24 "RoomForms$Stretches" "places" "[I", Cond.fieldLink RX10 28 "RoomForms$Stretches" "words" "[I"]
def wsX7_init : List Cond := .code yX7_init cX7_init 1 none :: ((wsX7_init_r1 ++ wsX7_init_r2) ++ wsX70 ++ wsX100)
def wsX7_empty : List Cond := .code yX7_empty cX7_empty 2 none :: ([.methodLink RX7 49 Lib.Math.max.name, .static Lib.Math.max.name, .initialized "java/lang/Math", .code Lib.Math.max.name Lib.Math.max.code 2 (some .int), .methodLink RX7 55 Lib.Math.min.name, .static Lib.Math.min.name, .code Lib.Math.min.name Lib.Math.min.code 2 (some .int), .fieldLink RX7 36 "RoomForms$Room" "words" "I", .fieldLink RX7 40 "RoomForms$Room" "blocks" "I", .fieldLink RX7 43 "RoomForms$Room" "given" "I", .fieldLink RX7 46 "RoomForms$Room" "looked" "I", .fieldLink RX7 9 "RoomForms$Room" "owners" "[I", .methodLink RX7 58 yJ7_fill_53178, .static yJ7_fill_53178, .initialized RJ7, .code yJ7_fill_53178 cJ7_fill_53178 4 none] ++ wsX70)
def wsX7_blocks : List Cond := .code yX7_blocks cX7_blocks 1 (some .int) :: ([.fieldLink RX7 40 "RoomForms$Room" "blocks" "I"] ++ wsX70)
def wsX7_given : List Cond := .code yX7_given cX7_given 1 (some .int) :: ([.fieldLink RX7 43 "RoomForms$Room" "given" "I"] ++ wsX70)
def wsX7_looked : List Cond := .code yX7_looked cX7_looked 1 (some .int) :: ([.fieldLink RX7 46 "RoomForms$Room" "looked" "I"] ++ wsX70)
def wsX7_settle : List Cond := .code yX7_settle cX7_settle 5 (some .int) :: ([.fieldLink RX7 40 "RoomForms$Room" "blocks" "I", .fieldLink RX7 43 "RoomForms$Room" "given" "I", .fieldLink RX7 15 "RoomForms$Room" "numbers" "[I", .fieldLink RX7 18 "RoomForms$Room" "places" "[I", .fieldLink RX7 21 "RoomForms$Room" "spans" "[I", .fieldLink RX7 24 "RoomForms$Room" "asked" "[I", .methodLink RX7 64 yX7_mark, .instanceMethod yX7_mark, .selects RX7 yX7_mark yX7_mark, .initialized RX7, .code yX7_mark cX7_mark 6 none, .fieldLink RX7 36 "RoomForms$Room" "words" "I", .methodLink RX7 55 Lib.Math.min.name, .static Lib.Math.min.name, .initialized "java/lang/Math", .code Lib.Math.min.name Lib.Math.min.code 2 (some .int), .methodLink RX7 49 Lib.Math.max.name, .static Lib.Math.max.name, .code Lib.Math.max.name Lib.Math.max.code 2 (some .int), .fieldLink RX7 9 "RoomForms$Room" "owners" "[I"] ++ wsX70)
def wsX7_remove : List Cond := .code yX7_remove cX7_remove 2 none :: ([.fieldLink RX7 40 "RoomForms$Room" "blocks" "I", .fieldLink RX7 18 "RoomForms$Room" "places" "[I", .fieldLink RX7 21 "RoomForms$Room" "spans" "[I", .fieldLink RX7 15 "RoomForms$Room" "numbers" "[I", .fieldLink RX7 24 "RoomForms$Room" "asked" "[I", .methodLink RX7 64 yX7_mark, .instanceMethod yX7_mark, .selects RX7 yX7_mark yX7_mark, .initialized RX7, .code yX7_mark cX7_mark 6 none, .fieldLink RX7 36 "RoomForms$Room" "words" "I", .methodLink RX7 55 Lib.Math.min.name, .static Lib.Math.min.name, .initialized "java/lang/Math", .code Lib.Math.min.name Lib.Math.min.code 2 (some .int), .methodLink RX7 49 Lib.Math.max.name, .static Lib.Math.max.name, .code Lib.Math.max.name Lib.Math.max.code 2 (some .int), .fieldLink RX7 9 "RoomForms$Room" "owners" "[I"] ++ wsX70)
def wsX7_slotOf : List Cond := .code yX7_slotOf cX7_slotOf 3 (some .int) :: ([.fieldLink RX7 40 "RoomForms$Room" "blocks" "I", .fieldLink RX7 15 "RoomForms$Room" "numbers" "[I"] ++ wsX70)
def wsX7_placeOf : List Cond := .code yX7_placeOf cX7_placeOf 2 (some .int) :: ([.fieldLink RX7 40 "RoomForms$Room" "blocks" "I", .fieldLink RX7 18 "RoomForms$Room" "places" "[I"] ++ wsX70)
def wsX7_spanOf : List Cond := .code yX7_spanOf cX7_spanOf 2 (some .int) :: ([.fieldLink RX7 40 "RoomForms$Room" "blocks" "I", .fieldLink RX7 21 "RoomForms$Room" "spans" "[I"] ++ wsX70)
def wsX7_askedOf : List Cond := .code yX7_askedOf cX7_askedOf 2 (some .int) :: ([.fieldLink RX7 40 "RoomForms$Room" "blocks" "I", .fieldLink RX7 24 "RoomForms$Room" "asked" "[I"] ++ wsX70)
def wsX7_blockAt : List Cond := .code yX7_blockAt cX7_blockAt 2 (some .int) :: ([.fieldLink RX7 36 "RoomForms$Room" "words" "I", .fieldLink RX7 9 "RoomForms$Room" "owners" "[I", .methodLink RX7 49 Lib.Math.max.name, .static Lib.Math.max.name, .initialized "java/lang/Math", .code Lib.Math.max.name Lib.Math.max.code 2 (some .int)] ++ wsX70)
def wsX7_askedTogether : List Cond := .code yX7_askedTogether cX7_askedTogether 3 (some .int) :: ([.fieldLink RX7 40 "RoomForms$Room" "blocks" "I", .fieldLink RX7 24 "RoomForms$Room" "asked" "[I"] ++ wsX70)
def wsX7_spansTogether : List Cond := .code yX7_spansTogether cX7_spansTogether 3 (some .int) :: ([.fieldLink RX7 40 "RoomForms$Room" "blocks" "I", .fieldLink RX7 21 "RoomForms$Room" "spans" "[I"] ++ wsX70)
def wsX8_init_r1 : List Cond := [Cond.methodLink RX8 5 objectInit, Cond.instanceMethod objectInit, Cond.code objectInit ⟨#[0xb1]⟩ 1 none, Cond.arrayClass .int, Cond.fieldLink RX8 11 "RoomForms$Search" "rooms" "[I", Cond.constant RX8 15 (32768), Cond.fieldLink RX8 16 "RoomForms$Search" "slots" "[I", Cond.classLink RX8 19 RX10, Cond.instantiable RX10 4, Cond.initialized RX10, Cond.fieldLink RX8 24 "RoomForms$Search" "runs" "LRoomForms$Stretches;", Cond.fieldLink RX8 28 "RoomForms$Search" "base" "I", Cond.fieldLink RX8 32 "RoomForms$Search" "met" "I", Cond.fieldLink RX8 35 "RoomForms$Search" "form" "I", Cond.fieldLink RX8 38 "RoomForms$Search" "most" "I", Cond.fieldLink RX8 41 "RoomForms$Search" "live" "I", Cond.fieldLink RX8 44 "RoomForms$Search" "words" "I", Cond.methodLink RX8 21 yX10_init, Cond.instanceMethod yX10_init, Cond.code yX10_init cX10_init 3 none, Cond.methodLink RX10 3 objectInit, Cond.fieldLink RX10 9 "RoomForms$Stretches" "size" "I", Cond.fieldLink RX10 15 "RoomForms$Stretches" "looked" "I", Cond.methodLink RX10 18 Lib.Math.max.name]
def wsX8_init_r2 : List Cond := [Cond.static Lib.Math.max.name, Cond.initialized "java/lang/Math", Cond.code Lib.Math.max.name Lib.Math.max.code 2 (some .int), Cond.fieldLink RX10 24 "RoomForms$Stretches" "places" "[I", Cond.fieldLink RX10 28 "RoomForms$Stretches" "words" "[I"]
def wsX8_init : List Cond := .code yX8_init cX8_init 1 none :: ((wsX8_init_r1 ++ wsX8_init_r2) ++ wsX80 ++ wsX100)
def wsX8_met : List Cond := .code yX8_met cX8_met 1 (some .int) :: ([.fieldLink RX8 32 "RoomForms$Search" "met" "I"] ++ wsX80)
def wsX8_addRoom : List Cond := .code yX8_addRoom cX8_addRoom 3 (some .boolean) :: ([.fieldLink RX8 32 "RoomForms$Search" "met" "I", .fieldLink RX8 11 "RoomForms$Search" "rooms" "[I", .fieldLink RX8 16 "RoomForms$Search" "slots" "[I", .fieldLink RX8 28 "RoomForms$Search" "base" "I"] ++ wsX80)
def wsX8_meet : List Cond := .code yX8_meet cX8_meet 8 (some .boolean) :: ([.constant RX8 93 (-1640531535), .constant RX8 15 (32768), .fieldLink RX8 16 "RoomForms$Search" "slots" "[I", .fieldLink RX8 28 "RoomForms$Search" "base" "I", .fieldLink RX8 32 "RoomForms$Search" "met" "I", .fieldLink RX8 11 "RoomForms$Search" "rooms" "[I", .methodLink RX8 94 yX8_addRoom, .instanceMethod yX8_addRoom, .selects RX8 yX8_addRoom yX8_addRoom, .initialized RX8, .code yX8_addRoom cX8_addRoom 3 (some .boolean)] ++ wsX80)
def wsX8_listRuns : List Cond := .code yX8_listRuns cX8_listRuns 4 none :: ([.fieldLink RX8 24 "RoomForms$Search" "runs" "LRoomForms$Stretches;", .fieldLink RX8 44 "RoomForms$Search" "words" "I", .methodLink RX8 86 yX10_clear, .instanceMethod yX10_clear, .selects RX10 yX10_clear yX10_clear, .initialized RX10, .code yX10_clear cX10_clear 1 none, .fieldLink RX10 9 "RoomForms$Stretches" "size" "I", .methodLink RX8 89 yX10_add, .instanceMethod yX10_add, .selects RX10 yX10_add yX10_add, .code yX10_add cX10_add 3 none, .fieldLink RX10 24 "RoomForms$Stretches" "places" "[I", .fieldLink RX10 28 "RoomForms$Stretches" "words" "[I"] ++ wsX80 ++ wsX100)
def wsJ6_bitCount_0f7a4 : List Cond := .code yJ6_bitCount_0f7a4 cJ6_bitCount_0f7a4 1 (some .int) :: ([.constant RJ6 265 (1431655765), .constant RJ6 266 (858993459), .constant RJ6 267 (252645135)])
def wsX8_askAll_r1 : List Cond := [Cond.fieldLink RX8 38 "RoomForms$Search" "most" "I", Cond.fieldLink RX8 41 "RoomForms$Search" "live" "I", Cond.methodLink RX8 74 Lib.Math.min.name, Cond.static Lib.Math.min.name, Cond.initialized "java/lang/Math", Cond.code Lib.Math.min.name Lib.Math.min.code 2 (some .int), Cond.fieldLink RX8 24 "RoomForms$Search" "runs" "LRoomForms$Stretches;", Cond.fieldLink RX8 35 "RoomForms$Search" "form" "I", Cond.methodLink RX8 66 yX8_listRuns, Cond.instanceMethod yX8_listRuns, Cond.selects RX8 yX8_listRuns yX8_listRuns, Cond.initialized RX8, Cond.code yX8_listRuns cX8_listRuns 4 none, Cond.fieldLink RX8 44 "RoomForms$Search" "words" "I", Cond.methodLink RX8 86 yX10_clear, Cond.instanceMethod yX10_clear, Cond.selects RX10 yX10_clear yX10_clear, Cond.initialized RX10, Cond.code yX10_clear cX10_clear 1 none, Cond.fieldLink RX10 9 "RoomForms$Stretches" "size" "I", Cond.methodLink RX8 89 yX10_add, Cond.instanceMethod yX10_add, Cond.selects RX10 yX10_add yX10_add, Cond.code yX10_add cX10_add 3 none]
def wsX8_askAll_r2 : List Cond := [Cond.fieldLink RX10 24 "RoomForms$Stretches" "places" "[I", Cond.fieldLink RX10 28 "RoomForms$Stretches" "words" "[I", Cond.methodLink RX8 69 yJ6_bitCount_0f7a4, Cond.static yJ6_bitCount_0f7a4, Cond.initialized RJ6, Cond.code yJ6_bitCount_0f7a4 cJ6_bitCount_0f7a4 1 (some .int), Cond.constant RJ6 265 (1431655765), Cond.constant RJ6 266 (858993459), Cond.constant RJ6 267 (252645135), Cond.methodLink RX8 80 yX10_find, Cond.instanceMethod yX10_find, Cond.selects RX10 yX10_find yX10_find, Cond.code yX10_find cX10_find 4 (some .int), Cond.fieldLink RX10 15 "RoomForms$Stretches" "looked" "I", Cond.methodLink RX10 37 yX10_nextFit, Cond.instanceMethod yX10_nextFit, Cond.selects RX10 yX10_nextFit yX10_nextFit, Cond.code yX10_nextFit cX10_nextFit 6 (some .int), Cond.methodLink RX10 18 Lib.Math.max.name, Cond.static Lib.Math.max.name, Cond.code Lib.Math.max.name Lib.Math.max.code 2 (some .int), Cond.methodLink RX10 40 yX10_bestFit, Cond.instanceMethod yX10_bestFit, Cond.selects RX10 yX10_bestFit yX10_bestFit]
def wsX8_askAll_r3 : List Cond := [Cond.code yX10_bestFit cX10_bestFit 4 (some .int), Cond.methodLink RX10 50 yX10_placeOf, Cond.instanceMethod yX10_placeOf, Cond.selects RX10 yX10_placeOf yX10_placeOf, Cond.code yX10_placeOf cX10_placeOf 2 (some .int), Cond.methodLink RX10 44 yX10_greatestFit, Cond.instanceMethod yX10_greatestFit, Cond.selects RX10 yX10_greatestFit yX10_greatestFit, Cond.code yX10_greatestFit cX10_greatestFit 4 (some .int), Cond.methodLink RX10 47 yX10_firstFit, Cond.instanceMethod yX10_firstFit, Cond.selects RX10 yX10_firstFit yX10_firstFit, Cond.code yX10_firstFit cX10_firstFit 3 (some .int), Cond.methodLink RX8 51 yX8_meet, Cond.instanceMethod yX8_meet, Cond.selects RX8 yX8_meet yX8_meet, Cond.code yX8_meet cX8_meet 8 (some .boolean), Cond.constant RX8 93 (-1640531535), Cond.constant RX8 15 (32768), Cond.fieldLink RX8 16 "RoomForms$Search" "slots" "[I", Cond.fieldLink RX8 28 "RoomForms$Search" "base" "I", Cond.fieldLink RX8 32 "RoomForms$Search" "met" "I", Cond.fieldLink RX8 11 "RoomForms$Search" "rooms" "[I", Cond.methodLink RX8 94 yX8_addRoom]
def wsX8_askAll_r4 : List Cond := [Cond.instanceMethod yX8_addRoom, Cond.selects RX8 yX8_addRoom yX8_addRoom, Cond.code yX8_addRoom cX8_addRoom 3 (some .boolean)]
def wsX8_askAll : List Cond := .code yX8_askAll cX8_askAll 9 (some .int) :: ((wsX8_askAll_r1 ++ (wsX8_askAll_r2 ++ (wsX8_askAll_r3 ++ wsX8_askAll_r4))) ++ wsX80 ++ wsX100)
def wsX8_blockFrom : List Cond := .code yX8_blockFrom cX8_blockFrom 7 (some .int) :: ([.fieldLink RX8 44 "RoomForms$Search" "words" "I"] ++ wsX80)
def wsX8_giveAllBack : List Cond := .code yX8_giveAllBack cX8_giveAllBack 6 (some .int) :: ([.fieldLink RX8 44 "RoomForms$Search" "words" "I", .methodLink RX8 83 yX8_blockFrom, .instanceMethod yX8_blockFrom, .selects RX8 yX8_blockFrom yX8_blockFrom, .initialized RX8, .code yX8_blockFrom cX8_blockFrom 7 (some .int), .methodLink RX8 51 yX8_meet, .instanceMethod yX8_meet, .selects RX8 yX8_meet yX8_meet, .code yX8_meet cX8_meet 8 (some .boolean), .constant RX8 93 (-1640531535), .constant RX8 15 (32768), .fieldLink RX8 16 "RoomForms$Search" "slots" "[I", .fieldLink RX8 28 "RoomForms$Search" "base" "I", .fieldLink RX8 32 "RoomForms$Search" "met" "I", .fieldLink RX8 11 "RoomForms$Search" "rooms" "[I", .methodLink RX8 94 yX8_addRoom, .instanceMethod yX8_addRoom, .selects RX8 yX8_addRoom yX8_addRoom, .code yX8_addRoom cX8_addRoom 3 (some .boolean)] ++ wsX80)
def wsX8_lookAt_r1 : List Cond := [Cond.methodLink RX8 59 yX8_askAll, Cond.instanceMethod yX8_askAll, Cond.selects RX8 yX8_askAll yX8_askAll, Cond.initialized RX8, Cond.code yX8_askAll cX8_askAll 9 (some .int), Cond.fieldLink RX8 38 "RoomForms$Search" "most" "I", Cond.fieldLink RX8 41 "RoomForms$Search" "live" "I", Cond.methodLink RX8 74 Lib.Math.min.name, Cond.static Lib.Math.min.name, Cond.initialized "java/lang/Math", Cond.code Lib.Math.min.name Lib.Math.min.code 2 (some .int), Cond.fieldLink RX8 24 "RoomForms$Search" "runs" "LRoomForms$Stretches;", Cond.fieldLink RX8 35 "RoomForms$Search" "form" "I", Cond.methodLink RX8 66 yX8_listRuns, Cond.instanceMethod yX8_listRuns, Cond.selects RX8 yX8_listRuns yX8_listRuns, Cond.code yX8_listRuns cX8_listRuns 4 none, Cond.fieldLink RX8 44 "RoomForms$Search" "words" "I", Cond.methodLink RX8 86 yX10_clear, Cond.instanceMethod yX10_clear, Cond.selects RX10 yX10_clear yX10_clear, Cond.initialized RX10, Cond.code yX10_clear cX10_clear 1 none, Cond.fieldLink RX10 9 "RoomForms$Stretches" "size" "I"]
def wsX8_lookAt_r2 : List Cond := [Cond.methodLink RX8 89 yX10_add, Cond.instanceMethod yX10_add, Cond.selects RX10 yX10_add yX10_add, Cond.code yX10_add cX10_add 3 none, Cond.fieldLink RX10 24 "RoomForms$Stretches" "places" "[I", Cond.fieldLink RX10 28 "RoomForms$Stretches" "words" "[I", Cond.methodLink RX8 69 yJ6_bitCount_0f7a4, Cond.static yJ6_bitCount_0f7a4, Cond.initialized RJ6, Cond.code yJ6_bitCount_0f7a4 cJ6_bitCount_0f7a4 1 (some .int), Cond.constant RJ6 265 (1431655765), Cond.constant RJ6 266 (858993459), Cond.constant RJ6 267 (252645135), Cond.methodLink RX8 80 yX10_find, Cond.instanceMethod yX10_find, Cond.selects RX10 yX10_find yX10_find, Cond.code yX10_find cX10_find 4 (some .int), Cond.fieldLink RX10 15 "RoomForms$Stretches" "looked" "I", Cond.methodLink RX10 37 yX10_nextFit, Cond.instanceMethod yX10_nextFit, Cond.selects RX10 yX10_nextFit yX10_nextFit, Cond.code yX10_nextFit cX10_nextFit 6 (some .int), Cond.methodLink RX10 18 Lib.Math.max.name, Cond.static Lib.Math.max.name]
def wsX8_lookAt_r3 : List Cond := [Cond.code Lib.Math.max.name Lib.Math.max.code 2 (some .int), Cond.methodLink RX10 40 yX10_bestFit, Cond.instanceMethod yX10_bestFit, Cond.selects RX10 yX10_bestFit yX10_bestFit, Cond.code yX10_bestFit cX10_bestFit 4 (some .int), Cond.methodLink RX10 50 yX10_placeOf, Cond.instanceMethod yX10_placeOf, Cond.selects RX10 yX10_placeOf yX10_placeOf, Cond.code yX10_placeOf cX10_placeOf 2 (some .int), Cond.methodLink RX10 44 yX10_greatestFit, Cond.instanceMethod yX10_greatestFit, Cond.selects RX10 yX10_greatestFit yX10_greatestFit, Cond.code yX10_greatestFit cX10_greatestFit 4 (some .int), Cond.methodLink RX10 47 yX10_firstFit, Cond.instanceMethod yX10_firstFit, Cond.selects RX10 yX10_firstFit yX10_firstFit, Cond.code yX10_firstFit cX10_firstFit 3 (some .int), Cond.methodLink RX8 51 yX8_meet, Cond.instanceMethod yX8_meet, Cond.selects RX8 yX8_meet yX8_meet, Cond.code yX8_meet cX8_meet 8 (some .boolean), Cond.constant RX8 93 (-1640531535), Cond.constant RX8 15 (32768), Cond.fieldLink RX8 16 "RoomForms$Search" "slots" "[I"]
def wsX8_lookAt_r4 : List Cond := [Cond.fieldLink RX8 28 "RoomForms$Search" "base" "I", Cond.fieldLink RX8 32 "RoomForms$Search" "met" "I", Cond.fieldLink RX8 11 "RoomForms$Search" "rooms" "[I", Cond.methodLink RX8 94 yX8_addRoom, Cond.instanceMethod yX8_addRoom, Cond.selects RX8 yX8_addRoom yX8_addRoom, Cond.code yX8_addRoom cX8_addRoom 3 (some .boolean), Cond.methodLink RX8 63 yX8_giveAllBack, Cond.instanceMethod yX8_giveAllBack, Cond.selects RX8 yX8_giveAllBack yX8_giveAllBack, Cond.code yX8_giveAllBack cX8_giveAllBack 6 (some .int), Cond.methodLink RX8 83 yX8_blockFrom, Cond.instanceMethod yX8_blockFrom, Cond.selects RX8 yX8_blockFrom yX8_blockFrom, Cond.code yX8_blockFrom cX8_blockFrom 7 (some .int)]
def wsX8_lookAt : List Cond := .code yX8_lookAt cX8_lookAt 6 (some .int) :: ((wsX8_lookAt_r1 ++ (wsX8_lookAt_r2 ++ (wsX8_lookAt_r3 ++ wsX8_lookAt_r4))) ++ wsX80 ++ wsX100)
def wsX8_lookAtAll_r1 : List Cond := [Cond.fieldLink RX8 28 "RoomForms$Search" "base" "I", Cond.fieldLink RX8 32 "RoomForms$Search" "met" "I", Cond.fieldLink RX8 11 "RoomForms$Search" "rooms" "[I", Cond.methodLink RX8 51 yX8_meet, Cond.instanceMethod yX8_meet, Cond.selects RX8 yX8_meet yX8_meet, Cond.initialized RX8, Cond.code yX8_meet cX8_meet 8 (some .boolean), Cond.constant RX8 93 (-1640531535), Cond.constant RX8 15 (32768), Cond.fieldLink RX8 16 "RoomForms$Search" "slots" "[I", Cond.methodLink RX8 94 yX8_addRoom, Cond.instanceMethod yX8_addRoom, Cond.selects RX8 yX8_addRoom yX8_addRoom, Cond.code yX8_addRoom cX8_addRoom 3 (some .boolean), Cond.methodLink RX8 55 yX8_lookAt, Cond.instanceMethod yX8_lookAt, Cond.selects RX8 yX8_lookAt yX8_lookAt, Cond.code yX8_lookAt cX8_lookAt 6 (some .int), Cond.methodLink RX8 59 yX8_askAll, Cond.instanceMethod yX8_askAll, Cond.selects RX8 yX8_askAll yX8_askAll, Cond.code yX8_askAll cX8_askAll 9 (some .int), Cond.fieldLink RX8 38 "RoomForms$Search" "most" "I"]
def wsX8_lookAtAll_r2 : List Cond := [Cond.fieldLink RX8 41 "RoomForms$Search" "live" "I", Cond.methodLink RX8 74 Lib.Math.min.name, Cond.static Lib.Math.min.name, Cond.initialized "java/lang/Math", Cond.code Lib.Math.min.name Lib.Math.min.code 2 (some .int), Cond.fieldLink RX8 24 "RoomForms$Search" "runs" "LRoomForms$Stretches;", Cond.fieldLink RX8 35 "RoomForms$Search" "form" "I", Cond.methodLink RX8 66 yX8_listRuns, Cond.instanceMethod yX8_listRuns, Cond.selects RX8 yX8_listRuns yX8_listRuns, Cond.code yX8_listRuns cX8_listRuns 4 none, Cond.fieldLink RX8 44 "RoomForms$Search" "words" "I", Cond.methodLink RX8 86 yX10_clear, Cond.instanceMethod yX10_clear, Cond.selects RX10 yX10_clear yX10_clear, Cond.initialized RX10, Cond.code yX10_clear cX10_clear 1 none, Cond.fieldLink RX10 9 "RoomForms$Stretches" "size" "I", Cond.methodLink RX8 89 yX10_add, Cond.instanceMethod yX10_add, Cond.selects RX10 yX10_add yX10_add, Cond.code yX10_add cX10_add 3 none, Cond.fieldLink RX10 24 "RoomForms$Stretches" "places" "[I", Cond.fieldLink RX10 28 "RoomForms$Stretches" "words" "[I"]
def wsX8_lookAtAll_r3 : List Cond := [Cond.methodLink RX8 69 yJ6_bitCount_0f7a4, Cond.static yJ6_bitCount_0f7a4, Cond.initialized RJ6, Cond.code yJ6_bitCount_0f7a4 cJ6_bitCount_0f7a4 1 (some .int), Cond.constant RJ6 265 (1431655765), Cond.constant RJ6 266 (858993459), Cond.constant RJ6 267 (252645135), Cond.methodLink RX8 80 yX10_find, Cond.instanceMethod yX10_find, Cond.selects RX10 yX10_find yX10_find, Cond.code yX10_find cX10_find 4 (some .int), Cond.fieldLink RX10 15 "RoomForms$Stretches" "looked" "I", Cond.methodLink RX10 37 yX10_nextFit, Cond.instanceMethod yX10_nextFit, Cond.selects RX10 yX10_nextFit yX10_nextFit, Cond.code yX10_nextFit cX10_nextFit 6 (some .int), Cond.methodLink RX10 18 Lib.Math.max.name, Cond.static Lib.Math.max.name, Cond.code Lib.Math.max.name Lib.Math.max.code 2 (some .int), Cond.methodLink RX10 40 yX10_bestFit, Cond.instanceMethod yX10_bestFit, Cond.selects RX10 yX10_bestFit yX10_bestFit, Cond.code yX10_bestFit cX10_bestFit 4 (some .int), Cond.methodLink RX10 50 yX10_placeOf]
def wsX8_lookAtAll_r4 : List Cond := [Cond.instanceMethod yX10_placeOf, Cond.selects RX10 yX10_placeOf yX10_placeOf, Cond.code yX10_placeOf cX10_placeOf 2 (some .int), Cond.methodLink RX10 44 yX10_greatestFit, Cond.instanceMethod yX10_greatestFit, Cond.selects RX10 yX10_greatestFit yX10_greatestFit, Cond.code yX10_greatestFit cX10_greatestFit 4 (some .int), Cond.methodLink RX10 47 yX10_firstFit, Cond.instanceMethod yX10_firstFit, Cond.selects RX10 yX10_firstFit yX10_firstFit, Cond.code yX10_firstFit cX10_firstFit 3 (some .int), Cond.methodLink RX8 63 yX8_giveAllBack, Cond.instanceMethod yX8_giveAllBack, Cond.selects RX8 yX8_giveAllBack yX8_giveAllBack, Cond.code yX8_giveAllBack cX8_giveAllBack 6 (some .int), Cond.methodLink RX8 83 yX8_blockFrom, Cond.instanceMethod yX8_blockFrom, Cond.selects RX8 yX8_blockFrom yX8_blockFrom, Cond.code yX8_blockFrom cX8_blockFrom 7 (some .int)]
def wsX8_lookAtAll : List Cond := .code yX8_lookAtAll cX8_lookAtAll 3 (some .int) :: ((wsX8_lookAtAll_r1 ++ (wsX8_lookAtAll_r2 ++ (wsX8_lookAtAll_r3 ++ wsX8_lookAtAll_r4))) ++ wsX80 ++ wsX100)
def wsX8_leastWords_r1 : List Cond := [Cond.fieldLink RX8 35 "RoomForms$Search" "form" "I", Cond.fieldLink RX8 38 "RoomForms$Search" "most" "I", Cond.fieldLink RX8 41 "RoomForms$Search" "live" "I", Cond.fieldLink RX8 44 "RoomForms$Search" "words" "I", Cond.methodLink RX8 47 yX8_lookAtAll, Cond.instanceMethod yX8_lookAtAll, Cond.selects RX8 yX8_lookAtAll yX8_lookAtAll, Cond.initialized RX8, Cond.code yX8_lookAtAll cX8_lookAtAll 3 (some .int), Cond.fieldLink RX8 28 "RoomForms$Search" "base" "I", Cond.fieldLink RX8 32 "RoomForms$Search" "met" "I", Cond.fieldLink RX8 11 "RoomForms$Search" "rooms" "[I", Cond.methodLink RX8 51 yX8_meet, Cond.instanceMethod yX8_meet, Cond.selects RX8 yX8_meet yX8_meet, Cond.code yX8_meet cX8_meet 8 (some .boolean), Cond.constant RX8 93 (-1640531535), Cond.constant RX8 15 (32768), Cond.fieldLink RX8 16 "RoomForms$Search" "slots" "[I", Cond.methodLink RX8 94 yX8_addRoom, Cond.instanceMethod yX8_addRoom, Cond.selects RX8 yX8_addRoom yX8_addRoom, Cond.code yX8_addRoom cX8_addRoom 3 (some .boolean), Cond.methodLink RX8 55 yX8_lookAt]
def wsX8_leastWords_r2 : List Cond := [Cond.instanceMethod yX8_lookAt, Cond.selects RX8 yX8_lookAt yX8_lookAt, Cond.code yX8_lookAt cX8_lookAt 6 (some .int), Cond.methodLink RX8 59 yX8_askAll, Cond.instanceMethod yX8_askAll, Cond.selects RX8 yX8_askAll yX8_askAll, Cond.code yX8_askAll cX8_askAll 9 (some .int), Cond.methodLink RX8 74 Lib.Math.min.name, Cond.static Lib.Math.min.name, Cond.initialized "java/lang/Math", Cond.code Lib.Math.min.name Lib.Math.min.code 2 (some .int), Cond.fieldLink RX8 24 "RoomForms$Search" "runs" "LRoomForms$Stretches;", Cond.methodLink RX8 66 yX8_listRuns, Cond.instanceMethod yX8_listRuns, Cond.selects RX8 yX8_listRuns yX8_listRuns, Cond.code yX8_listRuns cX8_listRuns 4 none, Cond.methodLink RX8 86 yX10_clear, Cond.instanceMethod yX10_clear, Cond.selects RX10 yX10_clear yX10_clear, Cond.initialized RX10, Cond.code yX10_clear cX10_clear 1 none, Cond.fieldLink RX10 9 "RoomForms$Stretches" "size" "I", Cond.methodLink RX8 89 yX10_add, Cond.instanceMethod yX10_add]
def wsX8_leastWords_r3 : List Cond := [Cond.selects RX10 yX10_add yX10_add, Cond.code yX10_add cX10_add 3 none, Cond.fieldLink RX10 24 "RoomForms$Stretches" "places" "[I", Cond.fieldLink RX10 28 "RoomForms$Stretches" "words" "[I", Cond.methodLink RX8 69 yJ6_bitCount_0f7a4, Cond.static yJ6_bitCount_0f7a4, Cond.initialized RJ6, Cond.code yJ6_bitCount_0f7a4 cJ6_bitCount_0f7a4 1 (some .int), Cond.constant RJ6 265 (1431655765), Cond.constant RJ6 266 (858993459), Cond.constant RJ6 267 (252645135), Cond.methodLink RX8 80 yX10_find, Cond.instanceMethod yX10_find, Cond.selects RX10 yX10_find yX10_find, Cond.code yX10_find cX10_find 4 (some .int), Cond.fieldLink RX10 15 "RoomForms$Stretches" "looked" "I", Cond.methodLink RX10 37 yX10_nextFit, Cond.instanceMethod yX10_nextFit, Cond.selects RX10 yX10_nextFit yX10_nextFit, Cond.code yX10_nextFit cX10_nextFit 6 (some .int), Cond.methodLink RX10 18 Lib.Math.max.name, Cond.static Lib.Math.max.name, Cond.code Lib.Math.max.name Lib.Math.max.code 2 (some .int), Cond.methodLink RX10 40 yX10_bestFit]
def wsX8_leastWords_r4 : List Cond := [Cond.instanceMethod yX10_bestFit, Cond.selects RX10 yX10_bestFit yX10_bestFit, Cond.code yX10_bestFit cX10_bestFit 4 (some .int), Cond.methodLink RX10 50 yX10_placeOf, Cond.instanceMethod yX10_placeOf, Cond.selects RX10 yX10_placeOf yX10_placeOf, Cond.code yX10_placeOf cX10_placeOf 2 (some .int), Cond.methodLink RX10 44 yX10_greatestFit, Cond.instanceMethod yX10_greatestFit, Cond.selects RX10 yX10_greatestFit yX10_greatestFit, Cond.code yX10_greatestFit cX10_greatestFit 4 (some .int), Cond.methodLink RX10 47 yX10_firstFit, Cond.instanceMethod yX10_firstFit, Cond.selects RX10 yX10_firstFit yX10_firstFit, Cond.code yX10_firstFit cX10_firstFit 3 (some .int), Cond.methodLink RX8 63 yX8_giveAllBack, Cond.instanceMethod yX8_giveAllBack, Cond.selects RX8 yX8_giveAllBack yX8_giveAllBack, Cond.code yX8_giveAllBack cX8_giveAllBack 6 (some .int), Cond.methodLink RX8 83 yX8_blockFrom, Cond.instanceMethod yX8_blockFrom, Cond.selects RX8 yX8_blockFrom yX8_blockFrom, Cond.code yX8_blockFrom cX8_blockFrom 7 (some .int)]
def wsX8_leastWords : List Cond := .code yX8_leastWords cX8_leastWords 6 (some .int) :: ((wsX8_leastWords_r1 ++ (wsX8_leastWords_r2 ++ (wsX8_leastWords_r3 ++ wsX8_leastWords_r4))) ++ wsX80 ++ wsX100)
def wsX9_init : List Cond := .code yX9_init cX9_init 2 none :: ([.fieldLink RX9 9 "RoomForms$Stack" "top" "I", .methodLink RX9 3 yX1_init, .instanceMethod yX1_init, .initialized RX1, .code yX1_init cX1_init 2 none, .methodLink RX1 3 objectInit, .instanceMethod objectInit, .code objectInit ⟨#[0xb1]⟩ 1 none, .fieldLink RX1 9 "RoomForms$Form" "room" "LRoomForms$Room;"] ++ wsX90 ++ wsX00 ++ wsX20 ++ wsX30 ++ wsX40 ++ wsX50 ++ wsX60)
def wsX9_begin : List Cond := .code yX9_begin cX9_begin 1 none :: ([.fieldLink RX9 9 "RoomForms$Stack" "top" "I"] ++ wsX90)
def wsX9_take : List Cond := .code yX9_take cX9_take 3 (some .int) :: ([.fieldLink RX9 15 "RoomForms$Stack" "room" "LRoomForms$Room;", .sameField "RoomForms$Stack" "RoomForms$Form" "room" "LRoomForms$Room;", .fieldLink RX9 9 "RoomForms$Stack" "top" "I", .methodLink RX9 19 yX7_addLooked, .instanceMethod yX7_addLooked, .selects RX7 yX7_addLooked yX7_addLooked, .initialized RX7, .code yX7_addLooked cX7_addLooked 2 none, .fieldLink RX7 46 "RoomForms$Room" "looked" "I", .methodLink RX9 25 yX7_words, .instanceMethod yX7_words, .selects RX7 yX7_words yX7_words, .code yX7_words cX7_words 1 (some .int), .fieldLink RX7 36 "RoomForms$Room" "words" "I"] ++ wsX00 ++ wsX20 ++ wsX30 ++ wsX40 ++ wsX50 ++ wsX60 ++ wsX90 ++ wsX70)
def wsX9_takeBack : List Cond := .code yX9_takeBack cX9_takeBack 3 none :: ([.fieldLink RX9 9 "RoomForms$Stack" "top" "I", .fieldLink RX9 15 "RoomForms$Stack" "room" "LRoomForms$Room;", .sameField "RoomForms$Stack" "RoomForms$Form" "room" "LRoomForms$Room;", .methodLink RX9 29 yX7_isFree, .instanceMethod yX7_isFree, .selects RX7 yX7_isFree yX7_isFree, .initialized RX7, .code yX7_isFree cX7_isFree 2 (some .boolean), .fieldLink RX7 36 "RoomForms$Room" "words" "I", .fieldLink RX7 9 "RoomForms$Room" "owners" "[I"] ++ wsX90 ++ wsX00 ++ wsX20 ++ wsX30 ++ wsX40 ++ wsX50 ++ wsX60 ++ wsX70)
def wsX9_top : List Cond := .code yX9_top cX9_top 1 (some .int) :: ([.fieldLink RX9 9 "RoomForms$Stack" "top" "I"] ++ wsX90)
def wsX10_mostWords : List Cond := .code yX10_mostWords cX10_mostWords 3 (some .int) :: ([.fieldLink RX10 9 "RoomForms$Stretches" "size" "I", .fieldLink RX10 28 "RoomForms$Stretches" "words" "[I", .methodLink RX10 18 Lib.Math.max.name, .static Lib.Math.max.name, .initialized "java/lang/Math", .code Lib.Math.max.name Lib.Math.max.code 2 (some .int)] ++ wsX100)
def wsJ9_max_7cf53 : List Cond := .code yJ9_max_7cf53 cJ9_max_7cf53 2 (some .int) :: ([])
def wsJ9_min_7cf53 : List Cond := .code yJ9_min_7cf53 cJ9_min_7cf53 2 (some .int) :: ([])
set_option maxRecDepth 20000 in
theorem ggX0_init_X1_init : GoodIn wsX0_init wsX1_init := by first | exact goodIn_sub (show zy_S _ wsX0_init from (zy_c (zy_t (zy_l (zy_l (zy_l (zy_l (zy_l (zy_l (zy_l (zy_t (zy_t (zy_t (zy_t (zy_t zy_h))))))))))))) (zy_a (zy_a (zy_a (zy_a (zy_a (zy_a (zy_a (zy_c (zy_t (zy_l (zy_l (zy_l (zy_l (zy_l (zy_l (zy_l (zy_t (zy_t (zy_t (zy_t (zy_t (zy_t zy_h)))))))))))))) (zy_c (zy_t (zy_l (zy_l (zy_l (zy_l (zy_l (zy_l (zy_l (zy_t (zy_t (zy_t (zy_t (zy_t (zy_t (zy_t zy_h))))))))))))))) (zy_c (zy_t (zy_l (zy_l (zy_l (zy_l (zy_l (zy_l (zy_l (zy_t (zy_t (zy_t (zy_t (zy_t (zy_t (zy_t (zy_t zy_h)))))))))))))))) (zy_c (zy_t (zy_l (zy_l (zy_l (zy_l (zy_l (zy_l (zy_l (zy_t (zy_t (zy_t (zy_t (zy_t (zy_t (zy_t (zy_t (zy_t zy_h))))))))))))))))) zy_n)))) (zy_p (fun _ h => (zy_t (zy_l (zy_l (zy_l (zy_l (zy_l (zy_l (zy_r h))))))))))) (zy_p (fun _ h => (zy_t (zy_l (zy_l (zy_l (zy_l (zy_l (zy_r h)))))))))) (zy_p (fun _ h => (zy_t (zy_l (zy_l (zy_l (zy_l (zy_r h))))))))) (zy_p (fun _ h => (zy_t (zy_l (zy_l (zy_l (zy_r h)))))))) (zy_p (fun _ h => (zy_t (zy_l (zy_l (zy_r h))))))) (zy_p (fun _ h => (zy_t (zy_l (zy_r h)))))) (zy_p (fun _ h => (zy_t (zy_r h))))))) (by decide +kernel) | exact goodIn_r _ [6, 7, 8, 9, 10, 11, 12, 13, 14, 15, 16, 17, 18, 19, 20, 21, 22, 23, 24, 25, 26, 27, 28] (by decide +kernel) (by decide +kernel)
set_option maxRecDepth 20000 in
theorem gX0_init_X1_init : GoodIn wsX0_init (wsX1_init) := ggX0_init_X1_init
theorem dX0_init_0 : decode cX0_init 0 = .ok (.aload_n 0, 1) := by decide +kernel
theorem dX0_init_1 : decode cX0_init 1 = .ok (.aload_n 1, 1) := by decide +kernel
theorem dX0_init_2 : decode cX0_init 2 = .ok (.invokespecial 3, 3) := by decide +kernel
theorem dX0_init_5 : decode cX0_init 5 = .ok (.aload_n 0, 1) := by decide +kernel
theorem dX0_init_6 : decode cX0_init 6 = .ok (.iconst 0, 1) := by decide +kernel
theorem dX0_init_7 : decode cX0_init 7 = .ok (.putfield 9, 3) := by decide +kernel
theorem dX0_init_10 : decode cX0_init 10 = .ok (.aload_n 0, 1) := by decide +kernel
theorem dX0_init_11 : decode cX0_init 11 = .ok (.iload_n 2, 1) := by decide +kernel
theorem dX0_init_12 : decode cX0_init 12 = .ok (.putfield 15, 3) := by decide +kernel
theorem dX0_init_15 : decode cX0_init 15 = .ok (.return_, 1) := by decide +kernel
theorem dX0_begin_0 : decode cX0_begin 0 = .ok (.aload_n 0, 1) := by decide +kernel
theorem dX0_begin_1 : decode cX0_begin 1 = .ok (.iconst 0, 1) := by decide +kernel
theorem dX0_begin_2 : decode cX0_begin 2 = .ok (.putfield 9, 3) := by decide +kernel
theorem dX0_begin_5 : decode cX0_begin 5 = .ok (.return_, 1) := by decide +kernel
set_option maxRecDepth 20000 in
theorem ggX0_take_X7_listRuns : GoodIn wsX0_take wsX7_listRuns := by first | exact goodIn_sub (show zy_S _ wsX0_take from (zy_c (zy_t (zy_l (zy_l (zy_l (zy_l (zy_l (zy_l (zy_l (zy_l (zy_l (zy_l (zy_t (zy_t (zy_t (zy_t (zy_t (zy_t (zy_t (zy_t zy_h))))))))))))))))))) (zy_a (zy_a (zy_c (zy_t (zy_l (zy_l (zy_l (zy_l (zy_l (zy_l (zy_l (zy_l (zy_l (zy_l (zy_t (zy_t (zy_t (zy_t (zy_t (zy_t (zy_t (zy_t (zy_t zy_h)))))))))))))))))))) (zy_c (zy_t (zy_l (zy_l (zy_l (zy_l (zy_l (zy_l (zy_l (zy_l (zy_l (zy_l (zy_t (zy_t (zy_t (zy_t (zy_t (zy_t (zy_t (zy_t (zy_t (zy_t zy_h))))))))))))))))))))) (zy_c (zy_t (zy_l (zy_l (zy_l (zy_l (zy_l (zy_l (zy_l (zy_l (zy_l (zy_l (zy_t (zy_t (zy_t (zy_t (zy_t (zy_t (zy_t (zy_t (zy_t (zy_t (zy_t zy_h)))))))))))))))))))))) (zy_c (zy_t (zy_l (zy_l (zy_l (zy_l (zy_l (zy_l (zy_l (zy_l (zy_l (zy_l (zy_t (zy_t (zy_t (zy_t (zy_t (zy_t (zy_t (zy_t (zy_t (zy_t (zy_t (zy_t zy_h))))))))))))))))))))))) (zy_c (zy_t (zy_l (zy_l (zy_l (zy_l (zy_l (zy_l (zy_l (zy_l (zy_l (zy_l (zy_t (zy_t (zy_t (zy_t (zy_t (zy_t (zy_t (zy_t (zy_t (zy_t (zy_t (zy_t (zy_t zy_h)))))))))))))))))))))))) (zy_c (zy_t (zy_l (zy_l (zy_l (zy_l (zy_l (zy_l (zy_l (zy_l (zy_l (zy_l (zy_t (zy_t (zy_t (zy_t (zy_t (zy_t (zy_t (zy_t (zy_t (zy_t (zy_t (zy_t (zy_t (zy_t zy_h))))))))))))))))))))))))) (zy_c (zy_t (zy_l (zy_l (zy_l (zy_l (zy_l (zy_l (zy_l (zy_l (zy_l (zy_l (zy_t (zy_t (zy_t (zy_t (zy_t (zy_t (zy_t (zy_t (zy_t (zy_t (zy_t (zy_t (zy_t (zy_t (zy_t zy_h)))))))))))))))))))))))))) (zy_c (zy_t (zy_l (zy_l (zy_l (zy_l (zy_l (zy_l (zy_l (zy_l (zy_l (zy_l (zy_t (zy_t (zy_t (zy_t (zy_t (zy_t (zy_t (zy_t (zy_t (zy_t (zy_t (zy_t (zy_t (zy_t (zy_t (zy_t zy_h))))))))))))))))))))))))))) (zy_c (zy_t (zy_l (zy_l (zy_l (zy_l (zy_l (zy_l (zy_l (zy_l (zy_l (zy_l (zy_t (zy_t (zy_t (zy_t (zy_t (zy_t (zy_t (zy_t (zy_t (zy_t (zy_t (zy_t (zy_t (zy_t (zy_t (zy_t (zy_t zy_h)))))))))))))))))))))))))))) (zy_c (zy_t (zy_l (zy_l (zy_l (zy_l (zy_l (zy_l (zy_l (zy_l (zy_l (zy_l (zy_t (zy_t (zy_t (zy_t (zy_t (zy_t (zy_t (zy_t (zy_t (zy_t (zy_t (zy_t (zy_t (zy_t (zy_t (zy_t (zy_t (zy_t zy_h))))))))))))))))))))))))))))) (zy_c (zy_t (zy_l (zy_l (zy_l (zy_l (zy_l (zy_l (zy_l (zy_l (zy_l (zy_l (zy_t (zy_t (zy_t (zy_t (zy_t (zy_t (zy_t (zy_t (zy_t (zy_t (zy_t (zy_t (zy_t (zy_t (zy_t (zy_t (zy_t (zy_t (zy_t zy_h)))))))))))))))))))))))))))))) (zy_c (zy_t (zy_l (zy_l (zy_l (zy_l (zy_l (zy_l (zy_l (zy_l (zy_l (zy_l (zy_t (zy_t (zy_t (zy_t (zy_t (zy_t (zy_t zy_h)))))))))))))))))) (zy_c (zy_t (zy_l (zy_l (zy_l (zy_l (zy_l (zy_l (zy_l (zy_l (zy_l (zy_l (zy_t (zy_t (zy_t (zy_t (zy_t (zy_t (zy_t (zy_t (zy_t (zy_t (zy_t (zy_t (zy_t (zy_t (zy_t (zy_t (zy_t (zy_t (zy_t (zy_t zy_h))))))))))))))))))))))))))))))) (zy_c (zy_t (zy_l (zy_l (zy_l (zy_l (zy_l (zy_l (zy_l (zy_l (zy_l (zy_l (zy_t (zy_t (zy_t (zy_t (zy_t (zy_t (zy_t (zy_t (zy_t (zy_t (zy_t (zy_t (zy_t (zy_t (zy_t (zy_t (zy_t (zy_t (zy_t (zy_t (zy_t zy_h)))))))))))))))))))))))))))))))) (zy_c (zy_t (zy_l (zy_l (zy_l (zy_l (zy_l (zy_l (zy_l (zy_l (zy_l (zy_l (zy_t (zy_t (zy_t (zy_t (zy_t (zy_t (zy_t (zy_t (zy_t (zy_t (zy_t (zy_t (zy_t (zy_t (zy_t (zy_t (zy_t (zy_t (zy_t (zy_t (zy_t (zy_t zy_h))))))))))))))))))))))))))))))))) (zy_c (zy_t (zy_l (zy_l (zy_l (zy_l (zy_l (zy_l (zy_l (zy_l (zy_l (zy_l (zy_t (zy_t (zy_t (zy_t (zy_t (zy_t (zy_t (zy_t (zy_t (zy_t (zy_t (zy_t (zy_t (zy_t (zy_t (zy_t (zy_t (zy_t (zy_t (zy_t (zy_t (zy_t (zy_t zy_h)))))))))))))))))))))))))))))))))) (zy_c (zy_t (zy_l (zy_l (zy_l (zy_l (zy_l (zy_l (zy_l (zy_l (zy_l (zy_r (zy_l zy_h)))))))))))) (zy_c (zy_t (zy_l (zy_l (zy_l (zy_l (zy_l (zy_l (zy_l (zy_l (zy_l (zy_r (zy_l (zy_t zy_h))))))))))))) (zy_c (zy_t (zy_l (zy_l (zy_l (zy_l (zy_l (zy_l (zy_l (zy_l (zy_l (zy_r (zy_l (zy_t (zy_t zy_h)))))))))))))) (zy_c (zy_t (zy_l (zy_l (zy_l (zy_l (zy_l (zy_l (zy_l (zy_l (zy_l (zy_r (zy_l (zy_t (zy_t (zy_t zy_h))))))))))))))) zy_n)))))))))))))))))))) (zy_p (fun _ h => (zy_t (zy_l (zy_r h)))))) (zy_p (fun _ h => (zy_t (zy_r h))))))) (by decide +kernel) | exact goodIn_r _ [9, 10, 11, 12, 13, 14, 15, 16, 17, 18, 19, 20, 8, 21, 22, 23, 24, 25, 26, 27, 28, 85, 86, 87, 88, 89, 90, 91, 92, 93, 94, 95, 96, 97, 98] (by decide +kernel) (by decide +kernel)
set_option maxRecDepth 20000 in
theorem gX0_take_X7_listRuns : GoodIn wsX0_take (wsV RX0 22 RX7 yX7_listRuns wsX7_listRuns) := by first | exact goodIn_app (goodIn_sub (show zy_S _ wsX0_take from (zy_c (zy_t (zy_l (zy_l (zy_l (zy_l (zy_l (zy_l (zy_l (zy_l (zy_l (zy_l (zy_t (zy_t (zy_t (zy_t zy_h))))))))))))))) (zy_c (zy_t (zy_l (zy_l (zy_l (zy_l (zy_l (zy_l (zy_l (zy_l (zy_l (zy_l (zy_t (zy_t (zy_t (zy_t (zy_t zy_h)))))))))))))))) (zy_c (zy_t (zy_l (zy_l (zy_l (zy_l (zy_l (zy_l (zy_l (zy_l (zy_l (zy_l (zy_t (zy_t (zy_t (zy_t (zy_t (zy_t zy_h))))))))))))))))) (zy_c (zy_t (zy_l (zy_l (zy_l (zy_l (zy_l (zy_l (zy_l (zy_l (zy_l (zy_l (zy_t (zy_t (zy_t (zy_t (zy_t (zy_t (zy_t zy_h)))))))))))))))))) zy_n))))) (by decide +kernel)) ggX0_take_X7_listRuns | exact goodIn_app (goodIn_of _ (by decide +kernel)) ggX0_take_X7_listRuns
set_option maxRecDepth 20000 in
theorem ggX0_take_X10_find : GoodIn wsX0_take wsX10_find := by first | exact goodIn_sub (show zy_S _ wsX0_take from (zy_c (zy_t (zy_l (zy_l (zy_l (zy_l (zy_l (zy_l (zy_l (zy_l (zy_l (zy_r (zy_l (zy_t (zy_t (zy_t (zy_t (zy_t (zy_t (zy_t zy_h))))))))))))))))))) (zy_a (zy_a (zy_c (zy_t (zy_l (zy_l (zy_l (zy_l (zy_l (zy_l (zy_l (zy_l (zy_l (zy_r (zy_l (zy_t (zy_t (zy_t (zy_t (zy_t (zy_t (zy_t (zy_t zy_h)))))))))))))))))))) (zy_c (zy_t (zy_l (zy_l (zy_l (zy_l (zy_l (zy_l (zy_l (zy_l (zy_l (zy_r (zy_l (zy_t (zy_t (zy_t (zy_t (zy_t (zy_t (zy_t (zy_t (zy_t zy_h))))))))))))))))))))) (zy_c (zy_t (zy_l (zy_l (zy_l (zy_l (zy_l (zy_l (zy_l (zy_l (zy_l (zy_r (zy_l (zy_t (zy_t (zy_t (zy_t (zy_t (zy_t (zy_t (zy_t (zy_t (zy_t zy_h)))))))))))))))))))))) (zy_c (zy_t (zy_l (zy_l (zy_l (zy_l (zy_l (zy_l (zy_l (zy_l (zy_l (zy_r (zy_l (zy_t (zy_t (zy_t (zy_t (zy_t (zy_t (zy_t (zy_t (zy_t (zy_t (zy_t zy_h))))))))))))))))))))))) (zy_c (zy_t (zy_l (zy_l (zy_l (zy_l (zy_l (zy_l (zy_l (zy_l (zy_l (zy_l (zy_t (zy_t (zy_t (zy_t (zy_t (zy_t (zy_t (zy_t (zy_t (zy_t (zy_t (zy_t (zy_t (zy_t zy_h))))))))))))))))))))))))) (zy_c (zy_t (zy_l (zy_l (zy_l (zy_l (zy_l (zy_l (zy_l (zy_l (zy_l (zy_r (zy_l (zy_t (zy_t (zy_t (zy_t (zy_t (zy_t (zy_t (zy_t (zy_t (zy_t (zy_t (zy_t zy_h)))))))))))))))))))))))) (zy_c (zy_t (zy_l (zy_l (zy_l (zy_l (zy_l (zy_l (zy_l (zy_l (zy_l (zy_l (zy_t (zy_t (zy_t (zy_t (zy_t (zy_t (zy_t (zy_t (zy_t (zy_t (zy_t (zy_t (zy_t (zy_t (zy_t (zy_t zy_h))))))))))))))))))))))))))) (zy_c (zy_t (zy_l (zy_l (zy_l (zy_l (zy_l (zy_l (zy_l (zy_l (zy_l (zy_r (zy_l (zy_t (zy_t zy_h)))))))))))))) (zy_c (zy_t (zy_l (zy_l (zy_l (zy_l (zy_l (zy_l (zy_l (zy_l (zy_l (zy_r (zy_l (zy_t (zy_t (zy_t (zy_t (zy_t (zy_t (zy_t (zy_t (zy_t (zy_t (zy_t (zy_t (zy_t zy_h))))))))))))))))))))))))) (zy_c (zy_t (zy_l (zy_l (zy_l (zy_l (zy_l (zy_l (zy_l (zy_l (zy_l (zy_r (zy_l (zy_t (zy_t (zy_t (zy_t (zy_t (zy_t (zy_t (zy_t (zy_t (zy_t (zy_t (zy_t (zy_t (zy_t zy_h)))))))))))))))))))))))))) (zy_c (zy_t (zy_l (zy_l (zy_l (zy_l (zy_l (zy_l (zy_l (zy_l (zy_l (zy_r (zy_l (zy_t (zy_t (zy_t (zy_t (zy_t (zy_t (zy_t (zy_t (zy_t (zy_t (zy_t (zy_t (zy_t (zy_t (zy_t zy_h))))))))))))))))))))))))))) (zy_c (zy_t (zy_l (zy_l (zy_l (zy_l (zy_l (zy_l (zy_l (zy_l (zy_l (zy_r (zy_l (zy_t (zy_t (zy_t (zy_t (zy_t (zy_t (zy_t (zy_t (zy_t (zy_t (zy_t (zy_t (zy_t (zy_t (zy_t (zy_t zy_h)))))))))))))))))))))))))))) (zy_c (zy_t (zy_l (zy_l (zy_l (zy_l (zy_l (zy_l (zy_l (zy_l (zy_l (zy_r (zy_l (zy_t (zy_t (zy_t zy_h))))))))))))))) (zy_c (zy_t (zy_l (zy_l (zy_l (zy_l (zy_l (zy_l (zy_l (zy_l (zy_l (zy_r (zy_l (zy_t (zy_t (zy_t (zy_t (zy_t (zy_t (zy_t (zy_t (zy_t (zy_t (zy_t (zy_t (zy_t (zy_t (zy_t (zy_t (zy_t zy_h))))))))))))))))))))))))))))) (zy_c (zy_t (zy_l (zy_l (zy_l (zy_l (zy_l (zy_l (zy_l (zy_l (zy_l (zy_r (zy_l (zy_t (zy_t (zy_t (zy_t (zy_t (zy_t (zy_t (zy_t (zy_t (zy_t (zy_t (zy_t (zy_t (zy_t (zy_t (zy_t (zy_t (zy_t zy_h)))))))))))))))))))))))))))))) (zy_c (zy_t (zy_l (zy_l (zy_l (zy_l (zy_l (zy_l (zy_l (zy_l (zy_l (zy_r (zy_l (zy_t (zy_t (zy_t (zy_t (zy_t (zy_t (zy_t (zy_t (zy_t (zy_t (zy_t (zy_t (zy_t (zy_t (zy_t (zy_t (zy_t (zy_t (zy_t zy_h))))))))))))))))))))))))))))))) (zy_c (zy_t (zy_l (zy_l (zy_l (zy_l (zy_l (zy_l (zy_l (zy_l (zy_l (zy_r (zy_l (zy_t (zy_t (zy_t (zy_t (zy_t (zy_t (zy_t (zy_t (zy_t (zy_t (zy_t (zy_t (zy_t (zy_t (zy_t (zy_t (zy_t (zy_t (zy_t (zy_t zy_h)))))))))))))))))))))))))))))))) (zy_c (zy_t (zy_l (zy_l (zy_l (zy_l (zy_l (zy_l (zy_l (zy_l (zy_l (zy_r (zy_l (zy_t (zy_t (zy_t (zy_t (zy_t (zy_t (zy_t (zy_t (zy_t (zy_t (zy_t (zy_t (zy_t (zy_t (zy_t (zy_t (zy_t (zy_t (zy_t (zy_t (zy_t zy_h))))))))))))))))))))))))))))))))) (zy_c (zy_t (zy_l (zy_l (zy_l (zy_l (zy_l (zy_l (zy_l (zy_l (zy_l (zy_r (zy_l (zy_t (zy_t (zy_t (zy_t (zy_t (zy_t (zy_t (zy_t (zy_t (zy_t (zy_t (zy_t (zy_t (zy_t (zy_t (zy_t (zy_t (zy_t (zy_t (zy_t (zy_t (zy_t zy_h)))))))))))))))))))))))))))))))))) (zy_c (zy_t (zy_l (zy_l (zy_l (zy_l (zy_l (zy_l (zy_l (zy_l (zy_l (zy_r (zy_l (zy_t (zy_t (zy_t (zy_t (zy_t (zy_t (zy_t (zy_t (zy_t (zy_t (zy_t (zy_t (zy_t (zy_t (zy_t (zy_t (zy_t (zy_t (zy_t (zy_t (zy_t (zy_t (zy_t zy_h))))))))))))))))))))))))))))))))))) (zy_c (zy_t (zy_l (zy_l (zy_l (zy_l (zy_l (zy_l (zy_l (zy_l (zy_l (zy_r (zy_r zy_h)))))))))))) (zy_c (zy_t (zy_l (zy_l (zy_l (zy_l (zy_l (zy_l (zy_l (zy_l (zy_l (zy_r (zy_r (zy_t zy_h))))))))))))) (zy_c (zy_t (zy_l (zy_l (zy_l (zy_l (zy_l (zy_l (zy_l (zy_l (zy_l (zy_r (zy_r (zy_t (zy_t zy_h)))))))))))))) (zy_c (zy_t (zy_l (zy_l (zy_l (zy_l (zy_l (zy_l (zy_l (zy_l (zy_l (zy_r (zy_r (zy_t (zy_t (zy_t zy_h))))))))))))))) zy_n)))))))))))))))))))))))) (zy_c (zy_t (zy_l (zy_l (zy_l (zy_l (zy_l (zy_l (zy_l (zy_l (zy_l (zy_r (zy_r (zy_t (zy_t (zy_t (zy_t zy_h)))))))))))))))) (zy_c (zy_t (zy_l (zy_l (zy_l (zy_l (zy_l (zy_l (zy_l (zy_l (zy_l (zy_r (zy_r (zy_t (zy_t (zy_t (zy_t (zy_t zy_h))))))))))))))))) (zy_c (zy_t (zy_l (zy_l (zy_l (zy_l (zy_l (zy_l (zy_l (zy_l (zy_l (zy_r (zy_r (zy_t (zy_t (zy_t (zy_t (zy_t (zy_t zy_h)))))))))))))))))) (zy_c (zy_t (zy_l (zy_l (zy_l (zy_l (zy_l (zy_l (zy_l (zy_l (zy_l (zy_r (zy_r (zy_t (zy_t (zy_t (zy_t (zy_t (zy_t (zy_t zy_h))))))))))))))))))) (zy_c (zy_t (zy_l (zy_l (zy_l (zy_l (zy_l (zy_l (zy_l (zy_l (zy_l (zy_r (zy_r (zy_t (zy_t (zy_t (zy_t (zy_t (zy_t (zy_t (zy_t zy_h)))))))))))))))))))) zy_n)))))) (zy_p (fun _ h => (zy_t (zy_r h))))))) (by decide +kernel) | exact goodIn_r _ [32, 33, 34, 35, 36, 15, 37, 17, 27, 38, 39, 40, 41, 28, 42, 43, 44, 45, 46, 47, 48, 49, 50, 51, 52, 53, 54, 55, 56, 57, 95, 96, 97, 98] (by decide +kernel) (by decide +kernel)
set_option maxRecDepth 20000 in
theorem gX0_take_X10_find : GoodIn wsX0_take (wsV RX0 28 RX10 yX10_find wsX10_find) := by first | exact goodIn_app (goodIn_sub (show zy_S _ wsX0_take from (zy_c (zy_t (zy_l (zy_l (zy_l (zy_l (zy_l (zy_l (zy_l (zy_l (zy_l (zy_r (zy_l (zy_t (zy_t (zy_t (zy_t zy_h)))))))))))))))) (zy_c (zy_t (zy_l (zy_l (zy_l (zy_l (zy_l (zy_l (zy_l (zy_l (zy_l (zy_r (zy_l (zy_t (zy_t (zy_t (zy_t (zy_t zy_h))))))))))))))))) (zy_c (zy_t (zy_l (zy_l (zy_l (zy_l (zy_l (zy_l (zy_l (zy_l (zy_l (zy_r (zy_l (zy_t (zy_t (zy_t (zy_t (zy_t (zy_t zy_h)))))))))))))))))) (zy_c (zy_t (zy_l (zy_l (zy_l (zy_l (zy_l (zy_l (zy_l (zy_l (zy_l (zy_l (zy_t (zy_t (zy_t (zy_t (zy_t (zy_t (zy_t (zy_t (zy_t (zy_t (zy_t (zy_t (zy_t (zy_t zy_h))))))))))))))))))))))))) zy_n))))) (by decide +kernel)) ggX0_take_X10_find | exact goodIn_app (goodIn_of _ (by decide +kernel)) ggX0_take_X10_find
set_option maxRecDepth 20000 in
theorem ggX0_take_X10_looked : GoodIn wsX0_take wsX10_looked := by first | exact goodIn_sub (show zy_S _ wsX0_take from (zy_c (zy_t (zy_l (zy_l (zy_l (zy_l (zy_l (zy_l (zy_l (zy_l (zy_l (zy_r (zy_r (zy_t (zy_t (zy_t (zy_t (zy_t (zy_t (zy_t (zy_t (zy_t (zy_t (zy_t (zy_t zy_h)))))))))))))))))))))))) (zy_a (zy_c (zy_t (zy_l (zy_l (zy_l (zy_l (zy_l (zy_l (zy_l (zy_l (zy_l (zy_r (zy_l (zy_t (zy_t (zy_t (zy_t (zy_t (zy_t (zy_t (zy_t zy_h)))))))))))))))))))) zy_n) (zy_p (fun _ h => (zy_t (zy_r h))))))) (by decide +kernel) | exact goodIn_r _ [61, 33, 95, 96, 97, 98] (by decide +kernel) (by decide +kernel)
set_option maxRecDepth 20000 in
theorem gX0_take_X10_looked : GoodIn wsX0_take (wsV RX0 34 RX10 yX10_looked wsX10_looked) := by first | exact goodIn_app (goodIn_sub (show zy_S _ wsX0_take from (zy_c (zy_t (zy_l (zy_l (zy_l (zy_l (zy_l (zy_l (zy_l (zy_l (zy_l (zy_r (zy_r (zy_t (zy_t (zy_t (zy_t (zy_t (zy_t (zy_t (zy_t (zy_t zy_h))))))))))))))))))))) (zy_c (zy_t (zy_l (zy_l (zy_l (zy_l (zy_l (zy_l (zy_l (zy_l (zy_l (zy_r (zy_r (zy_t (zy_t (zy_t (zy_t (zy_t (zy_t (zy_t (zy_t (zy_t (zy_t zy_h)))))))))))))))))))))) (zy_c (zy_t (zy_l (zy_l (zy_l (zy_l (zy_l (zy_l (zy_l (zy_l (zy_l (zy_r (zy_r (zy_t (zy_t (zy_t (zy_t (zy_t (zy_t (zy_t (zy_t (zy_t (zy_t (zy_t zy_h))))))))))))))))))))))) (zy_c (zy_t (zy_l (zy_l (zy_l (zy_l (zy_l (zy_l (zy_l (zy_l (zy_l (zy_l (zy_t (zy_t (zy_t (zy_t (zy_t (zy_t (zy_t (zy_t (zy_t (zy_t (zy_t (zy_t (zy_t (zy_t zy_h))))))))))))))))))))))))) zy_n))))) (by decide +kernel)) ggX0_take_X10_looked | exact goodIn_app (goodIn_of _ (by decide +kernel)) ggX0_take_X10_looked
set_option maxRecDepth 20000 in
theorem ggX0_take_X7_addLooked : GoodIn wsX0_take wsX7_addLooked := by first | exact goodIn_sub (show zy_S _ wsX0_take from (zy_c (zy_t (zy_l (zy_l (zy_l (zy_l (zy_l (zy_l (zy_l (zy_l (zy_l (zy_r (zy_r (zy_t (zy_t (zy_t (zy_t (zy_t (zy_t (zy_t (zy_t (zy_t (zy_t (zy_t (zy_t (zy_t (zy_t (zy_t (zy_t zy_h)))))))))))))))))))))))))))) (zy_a (zy_c (zy_t (zy_l (zy_l (zy_l (zy_l (zy_l (zy_l (zy_l (zy_l (zy_l (zy_r (zy_r (zy_t (zy_t (zy_t (zy_t (zy_t (zy_t (zy_t (zy_t (zy_t (zy_t (zy_t (zy_t (zy_t (zy_t (zy_t (zy_t (zy_t zy_h))))))))))))))))))))))))))))) zy_n) (zy_p (fun _ h => (zy_t (zy_l (zy_r h)))))))) (by decide +kernel) | exact goodIn_r _ [65, 66, 85, 86, 87, 88, 89, 90, 91, 92, 93, 94] (by decide +kernel) (by decide +kernel)
set_option maxRecDepth 20000 in
theorem gX0_take_X7_addLooked : GoodIn wsX0_take (wsV RX0 38 RX7 yX7_addLooked wsX7_addLooked) := by first | exact goodIn_app (goodIn_sub (show zy_S _ wsX0_take from (zy_c (zy_t (zy_l (zy_l (zy_l (zy_l (zy_l (zy_l (zy_l (zy_l (zy_l (zy_r (zy_r (zy_t (zy_t (zy_t (zy_t (zy_t (zy_t (zy_t (zy_t (zy_t (zy_t (zy_t (zy_t (zy_t zy_h))))))))))))))))))))))))) (zy_c (zy_t (zy_l (zy_l (zy_l (zy_l (zy_l (zy_l (zy_l (zy_l (zy_l (zy_r (zy_r (zy_t (zy_t (zy_t (zy_t (zy_t (zy_t (zy_t (zy_t (zy_t (zy_t (zy_t (zy_t (zy_t (zy_t zy_h)))))))))))))))))))))))))) (zy_c (zy_t (zy_l (zy_l (zy_l (zy_l (zy_l (zy_l (zy_l (zy_l (zy_l (zy_r (zy_r (zy_t (zy_t (zy_t (zy_t (zy_t (zy_t (zy_t (zy_t (zy_t (zy_t (zy_t (zy_t (zy_t (zy_t (zy_t zy_h))))))))))))))))))))))))))) (zy_c (zy_t (zy_l (zy_l (zy_l (zy_l (zy_l (zy_l (zy_l (zy_l (zy_l (zy_l (zy_t (zy_t (zy_t (zy_t (zy_t (zy_t (zy_t zy_h)))))))))))))))))) zy_n))))) (by decide +kernel)) ggX0_take_X7_addLooked | exact goodIn_app (goodIn_of _ (by decide +kernel)) ggX0_take_X7_addLooked
theorem dX0_take_0 : decode cX0_take 0 = .ok (.aload_n 0, 1) := by decide +kernel
theorem dX0_take_1 : decode cX0_take 1 = .ok (.getfield 18, 3) := by decide +kernel
theorem dX0_take_4 : decode cX0_take 4 = .ok (.invokevirtual 22, 3) := by decide +kernel
theorem dX0_take_7 : decode cX0_take 7 = .ok (.astore_n 2, 1) := by decide +kernel
theorem dX0_take_8 : decode cX0_take 8 = .ok (.aload_n 2, 1) := by decide +kernel
theorem dX0_take_9 : decode cX0_take 9 = .ok (.aload_n 0, 1) := by decide +kernel
theorem dX0_take_10 : decode cX0_take 10 = .ok (.getfield 15, 3) := by decide +kernel
theorem dX0_take_13 : decode cX0_take 13 = .ok (.iload_n 1, 1) := by decide +kernel
theorem dX0_take_14 : decode cX0_take 14 = .ok (.aload_n 0, 1) := by decide +kernel
theorem dX0_take_15 : decode cX0_take 15 = .ok (.getfield 9, 3) := by decide +kernel
theorem dX0_take_18 : decode cX0_take 18 = .ok (.invokevirtual 28, 3) := by decide +kernel
theorem dX0_take_21 : decode cX0_take 21 = .ok (.istore_n 3, 1) := by decide +kernel
theorem dX0_take_22 : decode cX0_take 22 = .ok (.aload_n 0, 1) := by decide +kernel
theorem dX0_take_23 : decode cX0_take 23 = .ok (.getfield 18, 3) := by decide +kernel
theorem dX0_take_26 : decode cX0_take 26 = .ok (.aload_n 2, 1) := by decide +kernel
theorem dX0_take_27 : decode cX0_take 27 = .ok (.invokevirtual 34, 3) := by decide +kernel
theorem dX0_take_30 : decode cX0_take 30 = .ok (.invokevirtual 38, 3) := by decide +kernel
theorem dX0_take_33 : decode cX0_take 33 = .ok (.iload_n 3, 1) := by decide +kernel
theorem dX0_take_34 : decode cX0_take 34 = .ok (.iconst (-1), 1) := by decide +kernel
theorem dX0_take_35 : decode cX0_take 35 = .ok (.if_icmp .eq 10, 3) := by decide +kernel
theorem dX0_take_38 : decode cX0_take 38 = .ok (.aload_n 0, 1) := by decide +kernel
theorem dX0_take_39 : decode cX0_take 39 = .ok (.iload_n 3, 1) := by decide +kernel
theorem dX0_take_40 : decode cX0_take 40 = .ok (.iload_n 1, 1) := by decide +kernel
theorem dX0_take_41 : decode cX0_take 41 = .ok (.iadd, 1) := by decide +kernel
theorem dX0_take_42 : decode cX0_take 42 = .ok (.putfield 9, 3) := by decide +kernel
theorem dX0_take_45 : decode cX0_take 45 = .ok (.iload_n 3, 1) := by decide +kernel
theorem dX0_take_46 : decode cX0_take 46 = .ok (.ireturn, 1) := by decide +kernel
theorem dX0_takeBack_0 : decode cX0_takeBack 0 = .ok (.return_, 1) := by decide +kernel
theorem dX1_init_0 : decode cX1_init 0 = .ok (.aload_n 0, 1) := by decide +kernel
theorem dX1_init_1 : decode cX1_init 1 = .ok (.invokespecial 3, 3) := by decide +kernel
theorem dX1_init_4 : decode cX1_init 4 = .ok (.aload_n 0, 1) := by decide +kernel
theorem dX1_init_5 : decode cX1_init 5 = .ok (.aload_n 1, 1) := by decide +kernel
theorem dX1_init_6 : decode cX1_init 6 = .ok (.putfield 9, 3) := by decide +kernel
theorem dX1_init_9 : decode cX1_init 9 = .ok (.return_, 1) := by decide +kernel
theorem dX1_spanOf_0 : decode cX1_spanOf 0 = .ok (.iload_n 1, 1) := by decide +kernel
theorem dX1_spanOf_1 : decode cX1_spanOf 1 = .ok (.ireturn, 1) := by decide +kernel
theorem dX1_quickOnes_0 : decode cX1_quickOnes 0 = .ok (.iconst 0, 1) := by decide +kernel
theorem dX1_quickOnes_1 : decode cX1_quickOnes 1 = .ok (.ireturn, 1) := by decide +kernel
theorem dX1_freeParts_0 : decode cX1_freeParts 0 = .ok (.iconst 0, 1) := by decide +kernel
theorem dX1_freeParts_1 : decode cX1_freeParts 1 = .ok (.ireturn, 1) := by decide +kernel
theorem dX1_top_0 : decode cX1_top 0 = .ok (.iconst 0, 1) := by decide +kernel
theorem dX1_top_1 : decode cX1_top 1 = .ok (.ireturn, 1) := by decide +kernel
theorem dX1_placeInList_0 : decode cX1_placeInList 0 = .ok (.iconst (-1), 1) := by decide +kernel
theorem dX1_placeInList_1 : decode cX1_placeInList 1 = .ok (.ireturn, 1) := by decide +kernel
set_option maxRecDepth 20000 in
theorem ggX2_init_X1_init : GoodIn wsX2_init wsX1_init := by first | exact goodIn_sub (show zy_S _ wsX2_init from (zy_c (zy_t (zy_l (zy_l (zy_l (zy_l (zy_l (zy_l (zy_l (zy_t (zy_t (zy_t (zy_t zy_h)))))))))))) (zy_a (zy_a (zy_a (zy_a (zy_a (zy_a (zy_a (zy_c (zy_t (zy_l (zy_l (zy_l (zy_l (zy_l (zy_l (zy_l (zy_t (zy_t (zy_t (zy_t (zy_t zy_h))))))))))))) (zy_c (zy_t (zy_l (zy_l (zy_l (zy_l (zy_l (zy_l (zy_l (zy_t (zy_t (zy_t (zy_t (zy_t (zy_t zy_h)))))))))))))) (zy_c (zy_t (zy_l (zy_l (zy_l (zy_l (zy_l (zy_l (zy_l (zy_t (zy_t (zy_t (zy_t (zy_t (zy_t (zy_t zy_h))))))))))))))) (zy_c (zy_t (zy_l (zy_l (zy_l (zy_l (zy_l (zy_l (zy_l (zy_t (zy_t (zy_t (zy_t (zy_t (zy_t (zy_t (zy_t zy_h)))))))))))))))) zy_n)))) (zy_p (fun _ h => (zy_t (zy_l (zy_l (zy_l (zy_l (zy_l (zy_r h)))))))))) (zy_p (fun _ h => (zy_t (zy_l (zy_l (zy_l (zy_l (zy_l (zy_l (zy_r h))))))))))) (zy_p (fun _ h => (zy_t (zy_l (zy_l (zy_l (zy_l (zy_r h))))))))) (zy_p (fun _ h => (zy_t (zy_l (zy_l (zy_l (zy_r h)))))))) (zy_p (fun _ h => (zy_t (zy_l (zy_l (zy_r h))))))) (zy_p (fun _ h => (zy_t (zy_l (zy_r h)))))) (zy_p (fun _ h => (zy_t (zy_r h))))))) (by decide +kernel) | exact goodIn_r _ [5, 6, 7, 8, 9, 12, 13, 14, 10, 11, 15, 16, 17, 18, 19, 20, 21, 22, 23, 24, 25, 26, 27] (by decide +kernel) (by decide +kernel)
set_option maxRecDepth 20000 in
theorem gX2_init_X1_init : GoodIn wsX2_init (wsX1_init) := ggX2_init_X1_init
theorem dX2_init_0 : decode cX2_init 0 = .ok (.aload_n 0, 1) := by decide +kernel
theorem dX2_init_1 : decode cX2_init 1 = .ok (.aload_n 1, 1) := by decide +kernel
theorem dX2_init_2 : decode cX2_init 2 = .ok (.invokespecial 3, 3) := by decide +kernel
theorem dX2_init_5 : decode cX2_init 5 = .ok (.aload_n 0, 1) := by decide +kernel
theorem dX2_init_6 : decode cX2_init 6 = .ok (.iconst 0, 1) := by decide +kernel
theorem dX2_init_7 : decode cX2_init 7 = .ok (.putfield 9, 3) := by decide +kernel
theorem dX2_init_10 : decode cX2_init 10 = .ok (.return_, 1) := by decide +kernel
set_option maxRecDepth 20000 in
theorem ggX2_begin_X7_words : GoodIn wsX2_begin wsX7_words := by first | exact goodIn_sub (show zy_S _ wsX2_begin from (zy_c (zy_t (zy_l (zy_l (zy_l (zy_l (zy_l (zy_l (zy_l (zy_l (zy_t (zy_t (zy_t (zy_t (zy_t (zy_t (zy_t zy_h)))))))))))))))) (zy_a (zy_c (zy_t (zy_l (zy_l (zy_l (zy_l (zy_l (zy_l (zy_l (zy_l (zy_t (zy_t (zy_t (zy_t (zy_t (zy_t (zy_t (zy_t zy_h))))))))))))))))) zy_n) (zy_p (fun _ h => (zy_t (zy_r h))))))) (by decide +kernel) | exact goodIn_r _ [8, 9, 28, 29, 30, 31, 32, 33, 34, 35, 36, 37] (by decide +kernel) (by decide +kernel)
set_option maxRecDepth 20000 in
theorem gX2_begin_X7_words : GoodIn wsX2_begin (wsV RX2 19 RX7 yX7_words wsX7_words) := by first | exact goodIn_app (goodIn_sub (show zy_S _ wsX2_begin from (zy_c (zy_t (zy_l (zy_l (zy_l (zy_l (zy_l (zy_l (zy_l (zy_l (zy_t (zy_t (zy_t zy_h)))))))))))) (zy_c (zy_t (zy_l (zy_l (zy_l (zy_l (zy_l (zy_l (zy_l (zy_l (zy_t (zy_t (zy_t (zy_t zy_h))))))))))))) (zy_c (zy_t (zy_l (zy_l (zy_l (zy_l (zy_l (zy_l (zy_l (zy_l (zy_t (zy_t (zy_t (zy_t (zy_t zy_h)))))))))))))) (zy_c (zy_t (zy_l (zy_l (zy_l (zy_l (zy_l (zy_l (zy_l (zy_l (zy_t (zy_t (zy_t (zy_t (zy_t (zy_t zy_h))))))))))))))) zy_n))))) (by decide +kernel)) ggX2_begin_X7_words | exact goodIn_app (goodIn_of _ (by decide +kernel)) ggX2_begin_X7_words
theorem dX2_begin_0 : decode cX2_begin 0 = .ok (.aload_n 0, 1) := by decide +kernel
theorem dX2_begin_1 : decode cX2_begin 1 = .ok (.aload_n 0, 1) := by decide +kernel
theorem dX2_begin_2 : decode cX2_begin 2 = .ok (.getfield 15, 3) := by decide +kernel
theorem dX2_begin_5 : decode cX2_begin 5 = .ok (.invokevirtual 19, 3) := by decide +kernel
theorem dX2_begin_8 : decode cX2_begin 8 = .ok (.iconst 4, 1) := by decide +kernel
theorem dX2_begin_9 : decode cX2_begin 9 = .ok (.idiv, 1) := by decide +kernel
theorem dX2_begin_10 : decode cX2_begin 10 = .ok (.putfield 9, 3) := by decide +kernel
theorem dX2_begin_13 : decode cX2_begin 13 = .ok (.return_, 1) := by decide +kernel
theorem dX2_spanOf_0 : decode cX2_spanOf 0 = .ok (.iload_n 1, 1) := by decide +kernel
theorem dX2_spanOf_1 : decode cX2_spanOf 1 = .ok (.iconst 4, 1) := by decide +kernel
theorem dX2_spanOf_2 : decode cX2_spanOf 2 = .ok (.iadd, 1) := by decide +kernel
theorem dX2_spanOf_3 : decode cX2_spanOf 3 = .ok (.iconst 1, 1) := by decide +kernel
theorem dX2_spanOf_4 : decode cX2_spanOf 4 = .ok (.isub, 1) := by decide +kernel
theorem dX2_spanOf_5 : decode cX2_spanOf 5 = .ok (.iconst 4, 1) := by decide +kernel
theorem dX2_spanOf_6 : decode cX2_spanOf 6 = .ok (.idiv, 1) := by decide +kernel
theorem dX2_spanOf_7 : decode cX2_spanOf 7 = .ok (.iconst 4, 1) := by decide +kernel
theorem dX2_spanOf_8 : decode cX2_spanOf 8 = .ok (.imul, 1) := by decide +kernel
theorem dX2_spanOf_9 : decode cX2_spanOf 9 = .ok (.ireturn, 1) := by decide +kernel
set_option maxRecDepth 20000 in
theorem ggX2_take_X11_powerFrom : GoodIn wsX2_take wsX11_powerFrom := by first | exact goodIn_sub (show zy_S _ wsX2_take from (zy_c (zy_t (zy_l (zy_l (zy_l (zy_l (zy_l (zy_l (zy_l (zy_l (zy_l (zy_t (zy_t (zy_t (zy_t (zy_t (zy_t (zy_t (zy_t (zy_t zy_h))))))))))))))))))) zy_n)) (by decide +kernel) | exact goodIn_r _ [10] (by decide +kernel) (by decide +kernel)
set_option maxRecDepth 20000 in
theorem gX2_take_X11_powerFrom_n25 : GoodIn wsX2_take (wsX11_powerFrom) := ggX2_take_X11_powerFrom
set_option maxRecDepth 20000 in
theorem ggX2_take_X7_addLooked : GoodIn wsX2_take wsX7_addLooked := by first | exact goodIn_sub (show zy_S _ wsX2_take from (zy_c (zy_t (zy_l (zy_l (zy_l (zy_l (zy_l (zy_l (zy_l (zy_l (zy_l (zy_t (zy_t (zy_t (zy_t (zy_t (zy_t (zy_t (zy_t (zy_t (zy_t (zy_t (zy_t (zy_t (zy_t zy_h)))))))))))))))))))))))) (zy_a (zy_c (zy_t (zy_l (zy_l (zy_l (zy_l (zy_l (zy_l (zy_l (zy_l (zy_l (zy_t (zy_t (zy_t (zy_t (zy_t (zy_t (zy_t (zy_t (zy_t (zy_t (zy_t (zy_t (zy_t (zy_t (zy_t zy_h))))))))))))))))))))))))) zy_n) (zy_p (fun _ h => (zy_t (zy_r h))))))) (by decide +kernel) | exact goodIn_r _ [15, 16, 46, 47, 48, 49, 50, 51, 52, 53, 54, 55] (by decide +kernel) (by decide +kernel)
set_option maxRecDepth 20000 in
theorem gX2_take_X7_addLooked : GoodIn wsX2_take (wsV RX2 35 RX7 yX7_addLooked wsX7_addLooked) := by first | exact goodIn_app (goodIn_sub (show zy_S _ wsX2_take from (zy_c (zy_t (zy_l (zy_l (zy_l (zy_l (zy_l (zy_l (zy_l (zy_l (zy_l (zy_t (zy_t (zy_t (zy_t (zy_t (zy_t (zy_t (zy_t (zy_t (zy_t zy_h)))))))))))))))))))) (zy_c (zy_t (zy_l (zy_l (zy_l (zy_l (zy_l (zy_l (zy_l (zy_l (zy_l (zy_t (zy_t (zy_t (zy_t (zy_t (zy_t (zy_t (zy_t (zy_t (zy_t (zy_t zy_h))))))))))))))))))))) (zy_c (zy_t (zy_l (zy_l (zy_l (zy_l (zy_l (zy_l (zy_l (zy_l (zy_l (zy_t (zy_t (zy_t (zy_t (zy_t (zy_t (zy_t (zy_t (zy_t (zy_t (zy_t (zy_t zy_h)))))))))))))))))))))) (zy_c (zy_t (zy_l (zy_l (zy_l (zy_l (zy_l (zy_l (zy_l (zy_l (zy_l (zy_t (zy_t (zy_t (zy_t (zy_t (zy_t (zy_t (zy_t (zy_t (zy_t (zy_t (zy_t (zy_t zy_h))))))))))))))))))))))) zy_n))))) (by decide +kernel)) ggX2_take_X7_addLooked | exact goodIn_app (goodIn_of _ (by decide +kernel)) ggX2_take_X7_addLooked
set_option maxRecDepth 20000 in
theorem ggX2_take_X2_areFree : GoodIn wsX2_take wsX2_areFree := by first | exact goodIn_sub (show zy_S _ wsX2_take from (zy_c (zy_t (zy_l (zy_l (zy_l (zy_l (zy_l (zy_l (zy_l (zy_l (zy_l (zy_t (zy_t (zy_t (zy_t (zy_t (zy_t (zy_t (zy_t (zy_t (zy_t (zy_t (zy_t (zy_t (zy_t (zy_t (zy_t (zy_t (zy_t (zy_t (zy_t zy_h)))))))))))))))))))))))))))))) (zy_a (zy_a (zy_a (zy_a (zy_a (zy_a (zy_a (zy_a (zy_c (zy_t (zy_l (zy_l (zy_l (zy_l (zy_l (zy_l (zy_l (zy_l (zy_l (zy_t (zy_t (zy_t (zy_t (zy_t zy_h))))))))))))))) (zy_c (zy_t (zy_l (zy_l (zy_l (zy_l (zy_l (zy_l (zy_l (zy_l (zy_l (zy_t (zy_t (zy_t (zy_t (zy_t (zy_t zy_h)))))))))))))))) (zy_c (zy_t (zy_l (zy_l (zy_l (zy_l (zy_l (zy_l (zy_l (zy_l (zy_l (zy_t (zy_t (zy_t (zy_t (zy_t (zy_t (zy_t (zy_t (zy_t (zy_t (zy_t (zy_t (zy_t (zy_t (zy_t (zy_t (zy_t (zy_t (zy_t (zy_t (zy_t zy_h))))))))))))))))))))))))))))))) (zy_c (zy_t (zy_l (zy_l (zy_l (zy_l (zy_l (zy_l (zy_l (zy_l (zy_l (zy_t (zy_t (zy_t (zy_t (zy_t (zy_t (zy_t (zy_t (zy_t (zy_t (zy_t (zy_t (zy_t (zy_t (zy_t (zy_t (zy_t (zy_t (zy_t (zy_t (zy_t (zy_t zy_h)))))))))))))))))))))))))))))))) (zy_c (zy_t (zy_l (zy_l (zy_l (zy_l (zy_l (zy_l (zy_l (zy_l (zy_l (zy_t (zy_t (zy_t (zy_t (zy_t (zy_t (zy_t (zy_t (zy_t (zy_t (zy_t (zy_t (zy_t (zy_t (zy_t (zy_t (zy_t (zy_t (zy_t (zy_t (zy_t (zy_t (zy_t zy_h))))))))))))))))))))))))))))))))) (zy_c (zy_t (zy_l (zy_l (zy_l (zy_l (zy_l (zy_l (zy_l (zy_l (zy_l (zy_t (zy_t (zy_t (zy_t (zy_t (zy_t (zy_t (zy_t (zy_t (zy_t (zy_t (zy_t (zy_t zy_h))))))))))))))))))))))) (zy_c (zy_t (zy_l (zy_l (zy_l (zy_l (zy_l (zy_l (zy_l (zy_l (zy_r zy_h)))))))))) (zy_c (zy_t (zy_l (zy_l (zy_l (zy_l (zy_l (zy_l (zy_l (zy_l (zy_r (zy_t zy_h))))))))))) (zy_c (zy_t (zy_l (zy_l (zy_l (zy_l (zy_l (zy_l (zy_l (zy_l (zy_r (zy_t (zy_t zy_h)))))))))))) zy_n))))))))) (zy_p (fun _ h => (zy_t (zy_l (zy_l (zy_l (zy_l (zy_l (zy_l (zy_r h))))))))))) (zy_p (fun _ h => (zy_t (zy_l (zy_l (zy_l (zy_l (zy_l (zy_l (zy_l (zy_r h)))))))))))) (zy_p (fun _ h => (zy_t (zy_l (zy_l (zy_l (zy_l (zy_l (zy_r h)))))))))) (zy_p (fun _ h => (zy_t (zy_l (zy_l (zy_l (zy_l (zy_r h))))))))) (zy_p (fun _ h => (zy_t (zy_l (zy_l (zy_l (zy_r h)))))))) (zy_p (fun _ h => (zy_t (zy_l (zy_l (zy_r h))))))) (zy_p (fun _ h => (zy_t (zy_l (zy_r h)))))) (zy_p (fun _ h => (zy_t (zy_r h))))))) (by decide +kernel) | exact goodIn_r _ [21, 6, 7, 22, 23, 24, 14, 25, 26, 27, 30, 31, 32, 28, 29, 33, 34, 35, 36, 37, 38, 39, 40, 41, 42, 43, 44, 45, 46, 47, 48, 49, 50, 51, 52, 53, 54, 55] (by decide +kernel) (by decide +kernel)
set_option maxRecDepth 20000 in
theorem gX2_take_X2_areFree : GoodIn wsX2_take (wsV RX2 39 RX2 yX2_areFree wsX2_areFree) := by first | exact goodIn_app (goodIn_sub (show zy_S _ wsX2_take from (zy_c (zy_t (zy_l (zy_l (zy_l (zy_l (zy_l (zy_l (zy_l (zy_l (zy_l (zy_t (zy_t (zy_t (zy_t (zy_t (zy_t (zy_t (zy_t (zy_t (zy_t (zy_t (zy_t (zy_t (zy_t (zy_t (zy_t zy_h)))))))))))))))))))))))))) (zy_c (zy_t (zy_l (zy_l (zy_l (zy_l (zy_l (zy_l (zy_l (zy_l (zy_l (zy_t (zy_t (zy_t (zy_t (zy_t (zy_t (zy_t (zy_t (zy_t (zy_t (zy_t (zy_t (zy_t (zy_t (zy_t (zy_t (zy_t zy_h))))))))))))))))))))))))))) (zy_c (zy_t (zy_l (zy_l (zy_l (zy_l (zy_l (zy_l (zy_l (zy_l (zy_l (zy_t (zy_t (zy_t (zy_t (zy_t (zy_t (zy_t (zy_t (zy_t (zy_t (zy_t (zy_t (zy_t (zy_t (zy_t (zy_t (zy_t (zy_t zy_h)))))))))))))))))))))))))))) (zy_c (zy_t (zy_l (zy_l (zy_l (zy_l (zy_l (zy_l (zy_l (zy_l (zy_l (zy_t (zy_t (zy_t (zy_t (zy_t (zy_t (zy_t (zy_t (zy_t (zy_t (zy_t (zy_t (zy_t (zy_t (zy_t (zy_t (zy_t (zy_t (zy_t zy_h))))))))))))))))))))))))))))) zy_n))))) (by decide +kernel)) ggX2_take_X2_areFree | exact goodIn_app (goodIn_of _ (by decide +kernel)) ggX2_take_X2_areFree
theorem dX2_take_0 : decode cX2_take 0 = .ok (.iload_n 1, 1) := by decide +kernel
theorem dX2_take_1 : decode cX2_take 1 = .ok (.iconst 4, 1) := by decide +kernel
theorem dX2_take_2 : decode cX2_take 2 = .ok (.idiv, 1) := by decide +kernel
theorem dX2_take_3 : decode cX2_take 3 = .ok (.istore_n 2, 1) := by decide +kernel
theorem dX2_take_4 : decode cX2_take 4 = .ok (.iload_n 2, 1) := by decide +kernel
theorem dX2_take_5 : decode cX2_take 5 = .ok (.invokestatic 25, 3) := by decide +kernel
theorem dX2_take_8 : decode cX2_take 8 = .ok (.bipush 8, 2) := by decide +kernel
theorem dX2_take_10 : decode cX2_take 10 = .ok (.invokestatic 29, 3) := by decide +kernel
theorem dX2_take_13 : decode cX2_take 13 = .ok (.istore_n 3, 1) := by decide +kernel
theorem dX2_take_14 : decode cX2_take 14 = .ok (.iconst 0, 1) := by decide +kernel
theorem dX2_take_15 : decode cX2_take 15 = .ok (.istore 4, 2) := by decide +kernel
theorem dX2_take_17 : decode cX2_take 17 = .ok (.iload 4, 2) := by decide +kernel
theorem dX2_take_19 : decode cX2_take 19 = .ok (.iload_n 2, 1) := by decide +kernel
theorem dX2_take_20 : decode cX2_take 20 = .ok (.iadd, 1) := by decide +kernel
theorem dX2_take_21 : decode cX2_take 21 = .ok (.aload_n 0, 1) := by decide +kernel
theorem dX2_take_22 : decode cX2_take 22 = .ok (.getfield 9, 3) := by decide +kernel
theorem dX2_take_25 : decode cX2_take 25 = .ok (.if_icmp .gt 35, 3) := by decide +kernel
theorem dX2_take_28 : decode cX2_take 28 = .ok (.aload_n 0, 1) := by decide +kernel
theorem dX2_take_29 : decode cX2_take 29 = .ok (.getfield 15, 3) := by decide +kernel
theorem dX2_take_32 : decode cX2_take 32 = .ok (.iconst 1, 1) := by decide +kernel
theorem dX2_take_33 : decode cX2_take 33 = .ok (.invokevirtual 35, 3) := by decide +kernel
theorem dX2_take_36 : decode cX2_take 36 = .ok (.aload_n 0, 1) := by decide +kernel
theorem dX2_take_37 : decode cX2_take 37 = .ok (.iload 4, 2) := by decide +kernel
theorem dX2_take_39 : decode cX2_take 39 = .ok (.iload_n 2, 1) := by decide +kernel
theorem dX2_take_40 : decode cX2_take 40 = .ok (.invokevirtual 39, 3) := by decide +kernel
theorem dX2_take_43 : decode cX2_take 43 = .ok (.ifCond .eq 8, 3) := by decide +kernel
theorem dX2_take_46 : decode cX2_take 46 = .ok (.iload 4, 2) := by decide +kernel
theorem dX2_take_48 : decode cX2_take 48 = .ok (.iconst 4, 1) := by decide +kernel
theorem dX2_take_49 : decode cX2_take 49 = .ok (.imul, 1) := by decide +kernel
theorem dX2_take_50 : decode cX2_take 50 = .ok (.ireturn, 1) := by decide +kernel
theorem dX2_take_51 : decode cX2_take 51 = .ok (.iload 4, 2) := by decide +kernel
theorem dX2_take_53 : decode cX2_take 53 = .ok (.iload_n 3, 1) := by decide +kernel
theorem dX2_take_54 : decode cX2_take 54 = .ok (.iadd, 1) := by decide +kernel
theorem dX2_take_55 : decode cX2_take 55 = .ok (.istore 4, 2) := by decide +kernel
theorem dX2_take_57 : decode cX2_take 57 = .ok (.goto (-40), 3) := by decide +kernel
theorem dX2_take_60 : decode cX2_take 60 = .ok (.iconst (-1), 1) := by decide +kernel
theorem dX2_take_61 : decode cX2_take 61 = .ok (.ireturn, 1) := by decide +kernel
set_option maxRecDepth 20000 in
theorem ggX2_areFree_X7_isFree : GoodIn wsX2_areFree wsX7_isFree := by first | exact goodIn_sub (show zy_S _ wsX2_areFree from (zy_c (zy_t (zy_l (zy_l (zy_l (zy_l (zy_l (zy_l (zy_l (zy_l (zy_t (zy_t (zy_t (zy_t (zy_t (zy_t zy_h))))))))))))))) (zy_a (zy_c (zy_t (zy_l (zy_l (zy_l (zy_l (zy_l (zy_l (zy_l (zy_l (zy_t (zy_t (zy_t (zy_t (zy_t (zy_t (zy_t zy_h)))))))))))))))) (zy_c (zy_t (zy_l (zy_l (zy_l (zy_l (zy_l (zy_l (zy_l (zy_l (zy_t (zy_t (zy_t (zy_t (zy_t (zy_t (zy_t (zy_t zy_h))))))))))))))))) zy_n)) (zy_p (fun _ h => (zy_t (zy_r h))))))) (by decide +kernel) | exact goodIn_r _ [7, 8, 9, 28, 29, 30, 31, 32, 33, 34, 35, 36, 37] (by decide +kernel) (by decide +kernel)
set_option maxRecDepth 20000 in
theorem gX2_areFree_X7_isFree : GoodIn wsX2_areFree (wsV RX2 43 RX7 yX7_isFree wsX7_isFree) := by first | exact goodIn_app (goodIn_sub (show zy_S _ wsX2_areFree from (zy_c (zy_t (zy_l (zy_l (zy_l (zy_l (zy_l (zy_l (zy_l (zy_l (zy_t (zy_t zy_h))))))))))) (zy_c (zy_t (zy_l (zy_l (zy_l (zy_l (zy_l (zy_l (zy_l (zy_l (zy_t (zy_t (zy_t zy_h)))))))))))) (zy_c (zy_t (zy_l (zy_l (zy_l (zy_l (zy_l (zy_l (zy_l (zy_l (zy_t (zy_t (zy_t (zy_t zy_h))))))))))))) (zy_c (zy_t (zy_l (zy_l (zy_l (zy_l (zy_l (zy_l (zy_l (zy_l (zy_t (zy_t (zy_t (zy_t (zy_t zy_h)))))))))))))) zy_n))))) (by decide +kernel)) ggX2_areFree_X7_isFree | exact goodIn_app (goodIn_of _ (by decide +kernel)) ggX2_areFree_X7_isFree
theorem dX2_areFree_0 : decode cX2_areFree 0 = .ok (.iload_n 1, 1) := by decide +kernel
theorem dX2_areFree_1 : decode cX2_areFree 1 = .ok (.istore_n 3, 1) := by decide +kernel
theorem dX2_areFree_2 : decode cX2_areFree 2 = .ok (.iload_n 3, 1) := by decide +kernel
theorem dX2_areFree_3 : decode cX2_areFree 3 = .ok (.iload_n 1, 1) := by decide +kernel
theorem dX2_areFree_4 : decode cX2_areFree 4 = .ok (.iload_n 2, 1) := by decide +kernel
theorem dX2_areFree_5 : decode cX2_areFree 5 = .ok (.iadd, 1) := by decide +kernel
theorem dX2_areFree_6 : decode cX2_areFree 6 = .ok (.if_icmp .ge 24, 3) := by decide +kernel
theorem dX2_areFree_9 : decode cX2_areFree 9 = .ok (.aload_n 0, 1) := by decide +kernel
theorem dX2_areFree_10 : decode cX2_areFree 10 = .ok (.getfield 15, 3) := by decide +kernel
theorem dX2_areFree_13 : decode cX2_areFree 13 = .ok (.iload_n 3, 1) := by decide +kernel
theorem dX2_areFree_14 : decode cX2_areFree 14 = .ok (.iconst 4, 1) := by decide +kernel
theorem dX2_areFree_15 : decode cX2_areFree 15 = .ok (.imul, 1) := by decide +kernel
theorem dX2_areFree_16 : decode cX2_areFree 16 = .ok (.invokevirtual 43, 3) := by decide +kernel
theorem dX2_areFree_19 : decode cX2_areFree 19 = .ok (.ifCond .ne 5, 3) := by decide +kernel
theorem dX2_areFree_22 : decode cX2_areFree 22 = .ok (.iconst 0, 1) := by decide +kernel
theorem dX2_areFree_23 : decode cX2_areFree 23 = .ok (.ireturn, 1) := by decide +kernel
theorem dX2_areFree_24 : decode cX2_areFree 24 = .ok (.iinc 3 1, 3) := by decide +kernel
theorem dX2_areFree_27 : decode cX2_areFree 27 = .ok (.goto (-25), 3) := by decide +kernel
theorem dX2_areFree_30 : decode cX2_areFree 30 = .ok (.iconst 1, 1) := by decide +kernel
theorem dX2_areFree_31 : decode cX2_areFree 31 = .ok (.ireturn, 1) := by decide +kernel
theorem dX2_takeBack_0 : decode cX2_takeBack 0 = .ok (.return_, 1) := by decide +kernel
set_option maxRecDepth 20000 in
theorem ggX3_init_X1_init : GoodIn wsX3_init wsX1_init := by first | exact goodIn_sub (show zy_S _ wsX3_init from (zy_c (zy_t (zy_l (zy_l (zy_l (zy_l (zy_l (zy_l (zy_l (zy_t (zy_t (zy_t (zy_t (zy_t (zy_t zy_h)))))))))))))) (zy_a (zy_a (zy_a (zy_a (zy_a (zy_a (zy_a (zy_c (zy_t (zy_l (zy_l (zy_l (zy_l (zy_l (zy_l (zy_l (zy_t (zy_t (zy_t (zy_t (zy_t (zy_t (zy_t zy_h))))))))))))))) (zy_c (zy_t (zy_l (zy_l (zy_l (zy_l (zy_l (zy_l (zy_l (zy_t (zy_t (zy_t (zy_t (zy_t (zy_t (zy_t (zy_t zy_h)))))))))))))))) (zy_c (zy_t (zy_l (zy_l (zy_l (zy_l (zy_l (zy_l (zy_l (zy_t (zy_t (zy_t (zy_t (zy_t (zy_t (zy_t (zy_t (zy_t zy_h))))))))))))))))) (zy_c (zy_t (zy_l (zy_l (zy_l (zy_l (zy_l (zy_l (zy_l (zy_t (zy_t (zy_t (zy_t (zy_t (zy_t (zy_t (zy_t (zy_t (zy_t zy_h)))))))))))))))))) zy_n)))) (zy_p (fun _ h => (zy_t (zy_l (zy_l (zy_l (zy_l (zy_l (zy_r h)))))))))) (zy_p (fun _ h => (zy_t (zy_l (zy_l (zy_l (zy_l (zy_r h))))))))) (zy_p (fun _ h => (zy_t (zy_l (zy_l (zy_l (zy_l (zy_l (zy_l (zy_r h))))))))))) (zy_p (fun _ h => (zy_t (zy_l (zy_l (zy_l (zy_r h)))))))) (zy_p (fun _ h => (zy_t (zy_l (zy_l (zy_r h))))))) (zy_p (fun _ h => (zy_t (zy_l (zy_r h)))))) (zy_p (fun _ h => (zy_t (zy_r h))))))) (by decide +kernel) | exact goodIn_r _ [7, 8, 9, 10, 11, 15, 16, 17, 18, 19, 12, 13, 14, 20, 21, 22, 23, 24, 25, 26, 27, 28, 29] (by decide +kernel) (by decide +kernel)
set_option maxRecDepth 20000 in
theorem gX3_init_X1_init : GoodIn wsX3_init (wsX1_init) := ggX3_init_X1_init
theorem dX3_init_0 : decode cX3_init 0 = .ok (.aload_n 0, 1) := by decide +kernel
theorem dX3_init_1 : decode cX3_init 1 = .ok (.aload_n 1, 1) := by decide +kernel
theorem dX3_init_2 : decode cX3_init 2 = .ok (.invokespecial 3, 3) := by decide +kernel
theorem dX3_init_5 : decode cX3_init 5 = .ok (.aload_n 0, 1) := by decide +kernel
theorem dX3_init_6 : decode cX3_init 6 = .ok (.sipush 1024, 3) := by decide +kernel
theorem dX3_init_9 : decode cX3_init 9 = .ok (.newarray .int, 2) := by decide +kernel
theorem dX3_init_11 : decode cX3_init 11 = .ok (.putfield 9, 3) := by decide +kernel
theorem dX3_init_14 : decode cX3_init 14 = .ok (.aload_n 0, 1) := by decide +kernel
theorem dX3_init_15 : decode cX3_init 15 = .ok (.iconst 0, 1) := by decide +kernel
theorem dX3_init_16 : decode cX3_init 16 = .ok (.putfield 15, 3) := by decide +kernel
theorem dX3_init_19 : decode cX3_init 19 = .ok (.return_, 1) := by decide +kernel
set_option maxRecDepth 20000 in
theorem ggX3_begin_X7_words : GoodIn wsX3_begin wsX7_words := by first | exact goodIn_sub (show zy_S _ wsX3_begin from (zy_c (zy_t (zy_l (zy_l (zy_l (zy_l (zy_l (zy_l (zy_l (zy_l (zy_t (zy_t (zy_t (zy_t (zy_t (zy_t (zy_t (zy_t zy_h))))))))))))))))) (zy_a (zy_c (zy_t (zy_l (zy_l (zy_l (zy_l (zy_l (zy_l (zy_l (zy_l (zy_t (zy_t (zy_t (zy_t (zy_t (zy_t (zy_t (zy_t (zy_t zy_h)))))))))))))))))) zy_n) (zy_p (fun _ h => (zy_t (zy_r h))))))) (by decide +kernel) | exact goodIn_r _ [9, 10, 36, 37, 38, 39, 40, 41, 42, 43, 44, 45] (by decide +kernel) (by decide +kernel)
set_option maxRecDepth 20000 in
theorem gX3_begin_X7_words : GoodIn wsX3_begin (wsV RX3 23 RX7 yX7_words wsX7_words) := by first | exact goodIn_app (goodIn_sub (show zy_S _ wsX3_begin from (zy_c (zy_t (zy_l (zy_l (zy_l (zy_l (zy_l (zy_l (zy_l (zy_l (zy_t (zy_t (zy_t (zy_t zy_h))))))))))))) (zy_c (zy_t (zy_l (zy_l (zy_l (zy_l (zy_l (zy_l (zy_l (zy_l (zy_t (zy_t (zy_t (zy_t (zy_t zy_h)))))))))))))) (zy_c (zy_t (zy_l (zy_l (zy_l (zy_l (zy_l (zy_l (zy_l (zy_l (zy_t (zy_t (zy_t (zy_t (zy_t (zy_t zy_h))))))))))))))) (zy_c (zy_t (zy_l (zy_l (zy_l (zy_l (zy_l (zy_l (zy_l (zy_l (zy_t (zy_t (zy_t (zy_t (zy_t (zy_t (zy_t zy_h)))))))))))))))) zy_n))))) (by decide +kernel)) ggX3_begin_X7_words | exact goodIn_app (goodIn_of _ (by decide +kernel)) ggX3_begin_X7_words
set_option maxRecDepth 20000 in
theorem ggX3_begin_X11_powerFrom : GoodIn wsX3_begin wsX11_powerFrom := by first | exact goodIn_sub (show zy_S _ wsX3_begin from (zy_c (zy_t (zy_l (zy_l (zy_l (zy_l (zy_l (zy_l (zy_l (zy_l (zy_t (zy_t (zy_t (zy_t (zy_t (zy_t (zy_t (zy_t (zy_t (zy_t (zy_t (zy_t zy_h))))))))))))))))))))) zy_n)) (by decide +kernel) | exact goodIn_r _ [13] (by decide +kernel) (by decide +kernel)
set_option maxRecDepth 20000 in
theorem gX3_begin_X11_powerFrom_n29 : GoodIn wsX3_begin (wsX11_powerFrom) := ggX3_begin_X11_powerFrom
set_option maxRecDepth 20000 in
theorem ggX3_begin_J7_fill_53178 : GoodIn wsX3_begin wsJ7_fill_53178 := by first | exact goodIn_sub (show zy_S _ wsX3_begin from (zy_c (zy_t (zy_l (zy_l (zy_l (zy_l (zy_l (zy_l (zy_l (zy_l (zy_t (zy_t (zy_t (zy_t (zy_t (zy_t (zy_t (zy_t (zy_t (zy_t (zy_t (zy_t (zy_t (zy_t (zy_t (zy_t zy_h))))))))))))))))))))))))) zy_n)) (by decide +kernel) | exact goodIn_r _ [17] (by decide +kernel) (by decide +kernel)
set_option maxRecDepth 20000 in
theorem gX3_begin_J7_fill_53178 : GoodIn wsX3_begin (va_wsS RX3 33 yJ7_fill_53178 wsJ7_fill_53178) := by first | exact goodIn_app (goodIn_sub (show zy_S _ wsX3_begin from (zy_c (zy_t (zy_l (zy_l (zy_l (zy_l (zy_l (zy_l (zy_l (zy_l (zy_t (zy_t (zy_t (zy_t (zy_t (zy_t (zy_t (zy_t (zy_t (zy_t (zy_t (zy_t (zy_t zy_h)))))))))))))))))))))) (zy_c (zy_t (zy_l (zy_l (zy_l (zy_l (zy_l (zy_l (zy_l (zy_l (zy_t (zy_t (zy_t (zy_t (zy_t (zy_t (zy_t (zy_t (zy_t (zy_t (zy_t (zy_t (zy_t (zy_t zy_h))))))))))))))))))))))) (zy_c (zy_t (zy_l (zy_l (zy_l (zy_l (zy_l (zy_l (zy_l (zy_l (zy_t (zy_t (zy_t (zy_t (zy_t (zy_t (zy_t (zy_t (zy_t (zy_t (zy_t (zy_t (zy_t (zy_t (zy_t zy_h)))))))))))))))))))))))) zy_n)))) (by decide +kernel)) ggX3_begin_J7_fill_53178 | exact goodIn_app (goodIn_of _ (by decide +kernel)) ggX3_begin_J7_fill_53178
theorem dX3_begin_0 : decode cX3_begin 0 = .ok (.aload_n 0, 1) := by decide +kernel
theorem dX3_begin_1 : decode cX3_begin 1 = .ok (.getfield 19, 3) := by decide +kernel
theorem dX3_begin_4 : decode cX3_begin 4 = .ok (.invokevirtual 23, 3) := by decide +kernel
theorem dX3_begin_7 : decode cX3_begin 7 = .ok (.invokestatic 29, 3) := by decide +kernel
theorem dX3_begin_10 : decode cX3_begin 10 = .ok (.istore_n 1, 1) := by decide +kernel
theorem dX3_begin_11 : decode cX3_begin 11 = .ok (.aload_n 0, 1) := by decide +kernel
theorem dX3_begin_12 : decode cX3_begin 12 = .ok (.iload_n 1, 1) := by decide +kernel
theorem dX3_begin_13 : decode cX3_begin 13 = .ok (.aload_n 0, 1) := by decide +kernel
theorem dX3_begin_14 : decode cX3_begin 14 = .ok (.getfield 19, 3) := by decide +kernel
theorem dX3_begin_17 : decode cX3_begin 17 = .ok (.invokevirtual 23, 3) := by decide +kernel
theorem dX3_begin_20 : decode cX3_begin 20 = .ok (.if_icmp .le 9, 3) := by decide +kernel
theorem dX3_begin_23 : decode cX3_begin 23 = .ok (.iload_n 1, 1) := by decide +kernel
theorem dX3_begin_24 : decode cX3_begin 24 = .ok (.iconst 2, 1) := by decide +kernel
theorem dX3_begin_25 : decode cX3_begin 25 = .ok (.idiv, 1) := by decide +kernel
theorem dX3_begin_26 : decode cX3_begin 26 = .ok (.goto 4, 3) := by decide +kernel
theorem dX3_begin_29 : decode cX3_begin 29 = .ok (.iload_n 1, 1) := by decide +kernel
theorem dX3_begin_30 : decode cX3_begin 30 = .ok (.putfield 15, 3) := by decide +kernel
theorem dX3_begin_33 : decode cX3_begin 33 = .ok (.aload_n 0, 1) := by decide +kernel
theorem dX3_begin_34 : decode cX3_begin 34 = .ok (.getfield 9, 3) := by decide +kernel
theorem dX3_begin_37 : decode cX3_begin 37 = .ok (.iconst 0, 1) := by decide +kernel
theorem dX3_begin_38 : decode cX3_begin 38 = .ok (.invokestatic 33, 3) := by decide +kernel
theorem dX3_begin_41 : decode cX3_begin 41 = .ok (.aload_n 0, 1) := by decide +kernel
theorem dX3_begin_42 : decode cX3_begin 42 = .ok (.getfield 9, 3) := by decide +kernel
theorem dX3_begin_45 : decode cX3_begin 45 = .ok (.iconst 0, 1) := by decide +kernel
theorem dX3_begin_46 : decode cX3_begin 46 = .ok (.aload_n 0, 1) := by decide +kernel
theorem dX3_begin_47 : decode cX3_begin 47 = .ok (.getfield 15, 3) := by decide +kernel
theorem dX3_begin_50 : decode cX3_begin 50 = .ok (.iastore, 1) := by decide +kernel
theorem dX3_begin_51 : decode cX3_begin 51 = .ok (.return_, 1) := by decide +kernel
set_option maxRecDepth 20000 in
theorem ggX3_spanOf_X11_powerFrom : GoodIn wsX3_spanOf wsX11_powerFrom := by first | exact goodIn_sub (show zy_S _ wsX3_spanOf from (zy_c (zy_t (zy_t (zy_t zy_h))) zy_n)) (by decide +kernel) | exact goodIn_r _ [3] (by decide +kernel) (by decide +kernel)
set_option maxRecDepth 20000 in
theorem gX3_spanOf_X11_powerFrom_n29 : GoodIn wsX3_spanOf (wsX11_powerFrom) := ggX3_spanOf_X11_powerFrom
theorem dX3_spanOf_0 : decode cX3_spanOf 0 = .ok (.iload_n 1, 1) := by decide +kernel
theorem dX3_spanOf_1 : decode cX3_spanOf 1 = .ok (.invokestatic 29, 3) := by decide +kernel
theorem dX3_spanOf_4 : decode cX3_spanOf 4 = .ok (.ireturn, 1) := by decide +kernel
set_option maxRecDepth 20000 in
theorem ggX3_take_X3_freeParts : GoodIn wsX3_take wsX3_freeParts := by first | exact goodIn_sub (show zy_S _ wsX3_take from (zy_c (zy_t (zy_l (zy_l (zy_l (zy_l (zy_l (zy_l (zy_l (zy_l (zy_t (zy_t (zy_t (zy_t (zy_t (zy_t (zy_t (zy_t zy_h))))))))))))))))) (zy_a (zy_c (zy_t (zy_l (zy_l (zy_l (zy_l (zy_l (zy_l (zy_l (zy_l (zy_t (zy_t (zy_t zy_h)))))))))))) (zy_c (zy_t (zy_l (zy_l (zy_l (zy_l (zy_l (zy_l (zy_l (zy_l (zy_t (zy_t zy_h))))))))))) zy_n)) (zy_p (fun _ h => (zy_t (zy_l (zy_l (zy_l (zy_l (zy_l (zy_r h)))))))))))) (by decide +kernel) | exact goodIn_r _ [9, 4, 3, 25, 26, 27] (by decide +kernel) (by decide +kernel)
set_option maxRecDepth 20000 in
theorem gX3_take_X3_freeParts : GoodIn wsX3_take (wsV RX3 39 RX3 yX3_freeParts wsX3_freeParts) := by first | exact goodIn_app (goodIn_sub (show zy_S _ wsX3_take from (zy_c (zy_t (zy_l (zy_l (zy_l (zy_l (zy_l (zy_l (zy_l (zy_l (zy_t (zy_t (zy_t (zy_t zy_h))))))))))))) (zy_c (zy_t (zy_l (zy_l (zy_l (zy_l (zy_l (zy_l (zy_l (zy_l (zy_t (zy_t (zy_t (zy_t (zy_t zy_h)))))))))))))) (zy_c (zy_t (zy_l (zy_l (zy_l (zy_l (zy_l (zy_l (zy_l (zy_l (zy_t (zy_t (zy_t (zy_t (zy_t (zy_t zy_h))))))))))))))) (zy_c (zy_t (zy_l (zy_l (zy_l (zy_l (zy_l (zy_l (zy_l (zy_l (zy_t (zy_t (zy_t (zy_t (zy_t (zy_t (zy_t zy_h)))))))))))))))) zy_n))))) (by decide +kernel)) ggX3_take_X3_freeParts | exact goodIn_app (goodIn_of _ (by decide +kernel)) ggX3_take_X3_freeParts
set_option maxRecDepth 20000 in
theorem ggX3_take_X7_addLooked : GoodIn wsX3_take wsX7_addLooked := by first | exact goodIn_sub (show zy_S _ wsX3_take from (zy_c (zy_t (zy_l (zy_l (zy_l (zy_l (zy_l (zy_l (zy_l (zy_l (zy_t (zy_t (zy_t (zy_t (zy_t (zy_t (zy_t (zy_t (zy_t (zy_t (zy_t (zy_t (zy_t zy_h)))))))))))))))))))))) (zy_a (zy_c (zy_t (zy_l (zy_l (zy_l (zy_l (zy_l (zy_l (zy_l (zy_l (zy_t (zy_t (zy_t (zy_t (zy_t (zy_t (zy_t (zy_t (zy_t (zy_t (zy_t (zy_t (zy_t (zy_t zy_h))))))))))))))))))))))) zy_n) (zy_p (fun _ h => (zy_t (zy_r h))))))) (by decide +kernel) | exact goodIn_r _ [14, 15, 38, 39, 40, 41, 42, 43, 44, 45, 46, 47] (by decide +kernel) (by decide +kernel)
set_option maxRecDepth 20000 in
theorem gX3_take_X7_addLooked : GoodIn wsX3_take (wsV RX3 42 RX7 yX7_addLooked wsX7_addLooked) := by first | exact goodIn_app (goodIn_sub (show zy_S _ wsX3_take from (zy_c (zy_t (zy_l (zy_l (zy_l (zy_l (zy_l (zy_l (zy_l (zy_l (zy_t (zy_t (zy_t (zy_t (zy_t (zy_t (zy_t (zy_t (zy_t zy_h)))))))))))))))))) (zy_c (zy_t (zy_l (zy_l (zy_l (zy_l (zy_l (zy_l (zy_l (zy_l (zy_t (zy_t (zy_t (zy_t (zy_t (zy_t (zy_t (zy_t (zy_t (zy_t zy_h))))))))))))))))))) (zy_c (zy_t (zy_l (zy_l (zy_l (zy_l (zy_l (zy_l (zy_l (zy_l (zy_t (zy_t (zy_t (zy_t (zy_t (zy_t (zy_t (zy_t (zy_t (zy_t (zy_t zy_h)))))))))))))))))))) (zy_c (zy_t (zy_l (zy_l (zy_l (zy_l (zy_l (zy_l (zy_l (zy_l (zy_t (zy_t (zy_t (zy_t (zy_t (zy_t (zy_t (zy_t (zy_t (zy_t (zy_t (zy_t zy_h))))))))))))))))))))) zy_n))))) (by decide +kernel)) ggX3_take_X7_addLooked | exact goodIn_app (goodIn_of _ (by decide +kernel)) ggX3_take_X7_addLooked
set_option maxRecDepth 20000 in
theorem ggX3_take_X3_smallestPiece : GoodIn wsX3_take wsX3_smallestPiece := by first | exact goodIn_sub (show zy_S _ wsX3_take from (zy_c (zy_t (zy_l (zy_l (zy_l (zy_l (zy_l (zy_l (zy_l (zy_l (zy_t (zy_t (zy_t (zy_t (zy_t (zy_t (zy_t (zy_t (zy_t (zy_t (zy_t (zy_t (zy_t (zy_t (zy_t (zy_t (zy_t (zy_t zy_h))))))))))))))))))))))))))) (zy_a (zy_c (zy_t (zy_l (zy_l (zy_l (zy_l (zy_l (zy_l (zy_l (zy_l (zy_t (zy_t (zy_t zy_h)))))))))))) (zy_c (zy_t (zy_l (zy_l (zy_l (zy_l (zy_l (zy_l (zy_l (zy_l (zy_t (zy_t zy_h))))))))))) zy_n)) (zy_p (fun _ h => (zy_t (zy_l (zy_l (zy_l (zy_l (zy_l (zy_r h)))))))))))) (by decide +kernel) | exact goodIn_r _ [19, 4, 3, 25, 26, 27] (by decide +kernel) (by decide +kernel)
set_option maxRecDepth 20000 in
theorem gX3_take_X3_smallestPiece : GoodIn wsX3_take (wsV RX3 46 RX3 yX3_smallestPiece wsX3_smallestPiece) := by first | exact goodIn_app (goodIn_sub (show zy_S _ wsX3_take from (zy_c (zy_t (zy_l (zy_l (zy_l (zy_l (zy_l (zy_l (zy_l (zy_l (zy_t (zy_t (zy_t (zy_t (zy_t (zy_t (zy_t (zy_t (zy_t (zy_t (zy_t (zy_t (zy_t (zy_t (zy_t zy_h)))))))))))))))))))))))) (zy_c (zy_t (zy_l (zy_l (zy_l (zy_l (zy_l (zy_l (zy_l (zy_l (zy_t (zy_t (zy_t (zy_t (zy_t (zy_t (zy_t (zy_t (zy_t (zy_t (zy_t (zy_t (zy_t (zy_t (zy_t (zy_t zy_h))))))))))))))))))))))))) (zy_c (zy_t (zy_l (zy_l (zy_l (zy_l (zy_l (zy_l (zy_l (zy_l (zy_t (zy_t (zy_t (zy_t (zy_t (zy_t (zy_t (zy_t (zy_t (zy_t (zy_t (zy_t (zy_t (zy_t (zy_t (zy_t (zy_t zy_h)))))))))))))))))))))))))) (zy_c (zy_t (zy_l (zy_l (zy_l (zy_l (zy_l (zy_l (zy_l (zy_l (zy_t (zy_t (zy_t (zy_t (zy_t (zy_t (zy_t zy_h)))))))))))))))) zy_n))))) (by decide +kernel)) ggX3_take_X3_smallestPiece | exact goodIn_app (goodIn_of _ (by decide +kernel)) ggX3_take_X3_smallestPiece
theorem dX3_take_0 : decode cX3_take 0 = .ok (.aload_n 0, 1) := by decide +kernel
theorem dX3_take_1 : decode cX3_take 1 = .ok (.getfield 19, 3) := by decide +kernel
theorem dX3_take_4 : decode cX3_take 4 = .ok (.aload_n 0, 1) := by decide +kernel
theorem dX3_take_5 : decode cX3_take 5 = .ok (.invokevirtual 39, 3) := by decide +kernel
theorem dX3_take_8 : decode cX3_take 8 = .ok (.invokevirtual 42, 3) := by decide +kernel
theorem dX3_take_11 : decode cX3_take 11 = .ok (.aload_n 0, 1) := by decide +kernel
theorem dX3_take_12 : decode cX3_take 12 = .ok (.iload_n 1, 1) := by decide +kernel
theorem dX3_take_13 : decode cX3_take 13 = .ok (.invokevirtual 46, 3) := by decide +kernel
theorem dX3_take_16 : decode cX3_take 16 = .ok (.istore_n 2, 1) := by decide +kernel
theorem dX3_take_17 : decode cX3_take 17 = .ok (.iload_n 2, 1) := by decide +kernel
theorem dX3_take_18 : decode cX3_take 18 = .ok (.iconst (-1), 1) := by decide +kernel
theorem dX3_take_19 : decode cX3_take 19 = .ok (.if_icmp .ne 5, 3) := by decide +kernel
theorem dX3_take_22 : decode cX3_take 22 = .ok (.iconst (-1), 1) := by decide +kernel
theorem dX3_take_23 : decode cX3_take 23 = .ok (.ireturn, 1) := by decide +kernel
theorem dX3_take_24 : decode cX3_take 24 = .ok (.aload_n 0, 1) := by decide +kernel
theorem dX3_take_25 : decode cX3_take 25 = .ok (.getfield 9, 3) := by decide +kernel
theorem dX3_take_28 : decode cX3_take 28 = .ok (.iload_n 2, 1) := by decide +kernel
theorem dX3_take_29 : decode cX3_take 29 = .ok (.iaload, 1) := by decide +kernel
theorem dX3_take_30 : decode cX3_take 30 = .ok (.iconst 2, 1) := by decide +kernel
theorem dX3_take_31 : decode cX3_take 31 = .ok (.idiv, 1) := by decide +kernel
theorem dX3_take_32 : decode cX3_take 32 = .ok (.istore_n 3, 1) := by decide +kernel
theorem dX3_take_33 : decode cX3_take 33 = .ok (.iload_n 3, 1) := by decide +kernel
theorem dX3_take_34 : decode cX3_take 34 = .ok (.iload_n 1, 1) := by decide +kernel
theorem dX3_take_35 : decode cX3_take 35 = .ok (.if_icmp .lt 33, 3) := by decide +kernel
theorem dX3_take_38 : decode cX3_take 38 = .ok (.iload_n 3, 1) := by decide +kernel
theorem dX3_take_39 : decode cX3_take 39 = .ok (.ifCond .le 29, 3) := by decide +kernel
theorem dX3_take_42 : decode cX3_take 42 = .ok (.iload_n 2, 1) := by decide +kernel
theorem dX3_take_43 : decode cX3_take 43 = .ok (.iload_n 3, 1) := by decide +kernel
theorem dX3_take_44 : decode cX3_take 44 = .ok (.iadd, 1) := by decide +kernel
theorem dX3_take_45 : decode cX3_take 45 = .ok (.aload_n 0, 1) := by decide +kernel
theorem dX3_take_46 : decode cX3_take 46 = .ok (.getfield 15, 3) := by decide +kernel
theorem dX3_take_49 : decode cX3_take 49 = .ok (.if_icmp .ge 19, 3) := by decide +kernel
theorem dX3_take_52 : decode cX3_take 52 = .ok (.aload_n 0, 1) := by decide +kernel
theorem dX3_take_53 : decode cX3_take 53 = .ok (.getfield 9, 3) := by decide +kernel
theorem dX3_take_56 : decode cX3_take 56 = .ok (.iload_n 2, 1) := by decide +kernel
theorem dX3_take_57 : decode cX3_take 57 = .ok (.iload_n 3, 1) := by decide +kernel
theorem dX3_take_58 : decode cX3_take 58 = .ok (.iadd, 1) := by decide +kernel
theorem dX3_take_59 : decode cX3_take 59 = .ok (.iload_n 3, 1) := by decide +kernel
theorem dX3_take_60 : decode cX3_take 60 = .ok (.iastore, 1) := by decide +kernel
theorem dX3_take_61 : decode cX3_take 61 = .ok (.iload_n 3, 1) := by decide +kernel
theorem dX3_take_62 : decode cX3_take 62 = .ok (.iconst 2, 1) := by decide +kernel
theorem dX3_take_63 : decode cX3_take 63 = .ok (.idiv, 1) := by decide +kernel
theorem dX3_take_64 : decode cX3_take 64 = .ok (.istore_n 3, 1) := by decide +kernel
theorem dX3_take_65 : decode cX3_take 65 = .ok (.goto (-32), 3) := by decide +kernel
theorem dX3_take_68 : decode cX3_take 68 = .ok (.aload_n 0, 1) := by decide +kernel
theorem dX3_take_69 : decode cX3_take 69 = .ok (.getfield 9, 3) := by decide +kernel
theorem dX3_take_72 : decode cX3_take 72 = .ok (.iload_n 2, 1) := by decide +kernel
theorem dX3_take_73 : decode cX3_take 73 = .ok (.iconst 0, 1) := by decide +kernel
theorem dX3_take_74 : decode cX3_take 74 = .ok (.iastore, 1) := by decide +kernel
theorem dX3_take_75 : decode cX3_take 75 = .ok (.iload_n 2, 1) := by decide +kernel
theorem dX3_take_76 : decode cX3_take 76 = .ok (.ireturn, 1) := by decide +kernel
theorem dX3_smallestPiece_0 : decode cX3_smallestPiece 0 = .ok (.iconst (-1), 1) := by decide +kernel
theorem dX3_smallestPiece_1 : decode cX3_smallestPiece 1 = .ok (.istore_n 2, 1) := by decide +kernel
theorem dX3_smallestPiece_2 : decode cX3_smallestPiece 2 = .ok (.iconst 0, 1) := by decide +kernel
theorem dX3_smallestPiece_3 : decode cX3_smallestPiece 3 = .ok (.istore_n 3, 1) := by decide +kernel
theorem dX3_smallestPiece_4 : decode cX3_smallestPiece 4 = .ok (.iload_n 3, 1) := by decide +kernel
theorem dX3_smallestPiece_5 : decode cX3_smallestPiece 5 = .ok (.aload_n 0, 1) := by decide +kernel
theorem dX3_smallestPiece_6 : decode cX3_smallestPiece 6 = .ok (.getfield 15, 3) := by decide +kernel
theorem dX3_smallestPiece_9 : decode cX3_smallestPiece 9 = .ok (.if_icmp .ge 41, 3) := by decide +kernel
theorem dX3_smallestPiece_12 : decode cX3_smallestPiece 12 = .ok (.aload_n 0, 1) := by decide +kernel
theorem dX3_smallestPiece_13 : decode cX3_smallestPiece 13 = .ok (.getfield 9, 3) := by decide +kernel
theorem dX3_smallestPiece_16 : decode cX3_smallestPiece 16 = .ok (.iload_n 3, 1) := by decide +kernel
theorem dX3_smallestPiece_17 : decode cX3_smallestPiece 17 = .ok (.iaload, 1) := by decide +kernel
theorem dX3_smallestPiece_18 : decode cX3_smallestPiece 18 = .ok (.iload_n 1, 1) := by decide +kernel
theorem dX3_smallestPiece_19 : decode cX3_smallestPiece 19 = .ok (.if_icmp .lt 25, 3) := by decide +kernel
theorem dX3_smallestPiece_22 : decode cX3_smallestPiece 22 = .ok (.iload_n 2, 1) := by decide +kernel
theorem dX3_smallestPiece_23 : decode cX3_smallestPiece 23 = .ok (.iconst (-1), 1) := by decide +kernel
theorem dX3_smallestPiece_24 : decode cX3_smallestPiece 24 = .ok (.if_icmp .eq 18, 3) := by decide +kernel
theorem dX3_smallestPiece_27 : decode cX3_smallestPiece 27 = .ok (.aload_n 0, 1) := by decide +kernel
theorem dX3_smallestPiece_28 : decode cX3_smallestPiece 28 = .ok (.getfield 9, 3) := by decide +kernel
theorem dX3_smallestPiece_31 : decode cX3_smallestPiece 31 = .ok (.iload_n 3, 1) := by decide +kernel
theorem dX3_smallestPiece_32 : decode cX3_smallestPiece 32 = .ok (.iaload, 1) := by decide +kernel
theorem dX3_smallestPiece_33 : decode cX3_smallestPiece 33 = .ok (.aload_n 0, 1) := by decide +kernel
theorem dX3_smallestPiece_34 : decode cX3_smallestPiece 34 = .ok (.getfield 9, 3) := by decide +kernel
theorem dX3_smallestPiece_37 : decode cX3_smallestPiece 37 = .ok (.iload_n 2, 1) := by decide +kernel
theorem dX3_smallestPiece_38 : decode cX3_smallestPiece 38 = .ok (.iaload, 1) := by decide +kernel
theorem dX3_smallestPiece_39 : decode cX3_smallestPiece 39 = .ok (.if_icmp .ge 5, 3) := by decide +kernel
theorem dX3_smallestPiece_42 : decode cX3_smallestPiece 42 = .ok (.iload_n 3, 1) := by decide +kernel
theorem dX3_smallestPiece_43 : decode cX3_smallestPiece 43 = .ok (.istore_n 2, 1) := by decide +kernel
theorem dX3_smallestPiece_44 : decode cX3_smallestPiece 44 = .ok (.iinc 3 1, 3) := by decide +kernel
theorem dX3_smallestPiece_47 : decode cX3_smallestPiece 47 = .ok (.goto (-43), 3) := by decide +kernel
theorem dX3_smallestPiece_50 : decode cX3_smallestPiece 50 = .ok (.iload_n 2, 1) := by decide +kernel
theorem dX3_smallestPiece_51 : decode cX3_smallestPiece 51 = .ok (.ireturn, 1) := by decide +kernel
theorem dX3_takeBack_0 : decode cX3_takeBack 0 = .ok (.iload_n 1, 1) := by decide +kernel
theorem dX3_takeBack_1 : decode cX3_takeBack 1 = .ok (.ifCond .lt 11, 3) := by decide +kernel
theorem dX3_takeBack_4 : decode cX3_takeBack 4 = .ok (.iload_n 1, 1) := by decide +kernel
theorem dX3_takeBack_5 : decode cX3_takeBack 5 = .ok (.aload_n 0, 1) := by decide +kernel
theorem dX3_takeBack_6 : decode cX3_takeBack 6 = .ok (.getfield 15, 3) := by decide +kernel
theorem dX3_takeBack_9 : decode cX3_takeBack 9 = .ok (.if_icmp .lt 4, 3) := by decide +kernel
theorem dX3_takeBack_12 : decode cX3_takeBack 12 = .ok (.return_, 1) := by decide +kernel
theorem dX3_takeBack_13 : decode cX3_takeBack 13 = .ok (.iload_n 1, 1) := by decide +kernel
theorem dX3_takeBack_14 : decode cX3_takeBack 14 = .ok (.istore_n 3, 1) := by decide +kernel
theorem dX3_takeBack_15 : decode cX3_takeBack 15 = .ok (.iload_n 2, 1) := by decide +kernel
theorem dX3_takeBack_16 : decode cX3_takeBack 16 = .ok (.istore 4, 2) := by decide +kernel
theorem dX3_takeBack_18 : decode cX3_takeBack 18 = .ok (.iload 4, 2) := by decide +kernel
theorem dX3_takeBack_20 : decode cX3_takeBack 20 = .ok (.ifCond .le 67, 3) := by decide +kernel
theorem dX3_takeBack_23 : decode cX3_takeBack 23 = .ok (.iload 4, 2) := by decide +kernel
theorem dX3_takeBack_25 : decode cX3_takeBack 25 = .ok (.aload_n 0, 1) := by decide +kernel
theorem dX3_takeBack_26 : decode cX3_takeBack 26 = .ok (.getfield 15, 3) := by decide +kernel
theorem dX3_takeBack_29 : decode cX3_takeBack 29 = .ok (.if_icmp .ge 58, 3) := by decide +kernel
theorem dX3_takeBack_32 : decode cX3_takeBack 32 = .ok (.iload_n 3, 1) := by decide +kernel
theorem dX3_takeBack_33 : decode cX3_takeBack 33 = .ok (.iload 4, 2) := by decide +kernel
theorem dX3_takeBack_35 : decode cX3_takeBack 35 = .ok (.ixor, 1) := by decide +kernel
theorem dX3_takeBack_36 : decode cX3_takeBack 36 = .ok (.istore 5, 2) := by decide +kernel
theorem dX3_takeBack_38 : decode cX3_takeBack 38 = .ok (.iload 5, 2) := by decide +kernel
theorem dX3_takeBack_40 : decode cX3_takeBack 40 = .ok (.aload_n 0, 1) := by decide +kernel
theorem dX3_takeBack_41 : decode cX3_takeBack 41 = .ok (.getfield 15, 3) := by decide +kernel
theorem dX3_takeBack_44 : decode cX3_takeBack 44 = .ok (.if_icmp .ge 43, 3) := by decide +kernel
theorem dX3_takeBack_47 : decode cX3_takeBack 47 = .ok (.aload_n 0, 1) := by decide +kernel
theorem dX3_takeBack_48 : decode cX3_takeBack 48 = .ok (.getfield 9, 3) := by decide +kernel
theorem dX3_takeBack_51 : decode cX3_takeBack 51 = .ok (.iload 5, 2) := by decide +kernel
theorem dX3_takeBack_53 : decode cX3_takeBack 53 = .ok (.iaload, 1) := by decide +kernel
theorem dX3_takeBack_54 : decode cX3_takeBack 54 = .ok (.iload 4, 2) := by decide +kernel
theorem dX3_takeBack_56 : decode cX3_takeBack 56 = .ok (.if_icmp .eq 6, 3) := by decide +kernel
theorem dX3_takeBack_59 : decode cX3_takeBack 59 = .ok (.goto 28, 3) := by decide +kernel
theorem dX3_takeBack_62 : decode cX3_takeBack 62 = .ok (.aload_n 0, 1) := by decide +kernel
theorem dX3_takeBack_63 : decode cX3_takeBack 63 = .ok (.getfield 9, 3) := by decide +kernel
theorem dX3_takeBack_66 : decode cX3_takeBack 66 = .ok (.iload 5, 2) := by decide +kernel
theorem dX3_takeBack_68 : decode cX3_takeBack 68 = .ok (.iconst 0, 1) := by decide +kernel
theorem dX3_takeBack_69 : decode cX3_takeBack 69 = .ok (.iastore, 1) := by decide +kernel
theorem dX3_takeBack_70 : decode cX3_takeBack 70 = .ok (.iload_n 3, 1) := by decide +kernel
theorem dX3_takeBack_71 : decode cX3_takeBack 71 = .ok (.iload 5, 2) := by decide +kernel
theorem dX3_takeBack_73 : decode cX3_takeBack 73 = .ok (.invokestatic 49, 3) := by decide +kernel
theorem dX3_takeBack_76 : decode cX3_takeBack 76 = .ok (.istore_n 3, 1) := by decide +kernel
theorem dX3_takeBack_77 : decode cX3_takeBack 77 = .ok (.iload 4, 2) := by decide +kernel
theorem dX3_takeBack_79 : decode cX3_takeBack 79 = .ok (.iload 4, 2) := by decide +kernel
theorem dX3_takeBack_81 : decode cX3_takeBack 81 = .ok (.iadd, 1) := by decide +kernel
theorem dX3_takeBack_82 : decode cX3_takeBack 82 = .ok (.istore 4, 2) := by decide +kernel
theorem dX3_takeBack_84 : decode cX3_takeBack 84 = .ok (.goto (-66), 3) := by decide +kernel
theorem dX3_takeBack_87 : decode cX3_takeBack 87 = .ok (.aload_n 0, 1) := by decide +kernel
theorem dX3_takeBack_88 : decode cX3_takeBack 88 = .ok (.getfield 9, 3) := by decide +kernel
theorem dX3_takeBack_91 : decode cX3_takeBack 91 = .ok (.iload_n 3, 1) := by decide +kernel
theorem dX3_takeBack_92 : decode cX3_takeBack 92 = .ok (.iload 4, 2) := by decide +kernel
theorem dX3_takeBack_94 : decode cX3_takeBack 94 = .ok (.iastore, 1) := by decide +kernel
theorem dX3_takeBack_95 : decode cX3_takeBack 95 = .ok (.return_, 1) := by decide +kernel
theorem dX3_freeParts_0 : decode cX3_freeParts 0 = .ok (.iconst 0, 1) := by decide +kernel
theorem dX3_freeParts_1 : decode cX3_freeParts 1 = .ok (.istore_n 1, 1) := by decide +kernel
theorem dX3_freeParts_2 : decode cX3_freeParts 2 = .ok (.iconst 0, 1) := by decide +kernel
theorem dX3_freeParts_3 : decode cX3_freeParts 3 = .ok (.istore_n 2, 1) := by decide +kernel
theorem dX3_freeParts_4 : decode cX3_freeParts 4 = .ok (.iload_n 2, 1) := by decide +kernel
theorem dX3_freeParts_5 : decode cX3_freeParts 5 = .ok (.aload_n 0, 1) := by decide +kernel
theorem dX3_freeParts_6 : decode cX3_freeParts 6 = .ok (.getfield 15, 3) := by decide +kernel
theorem dX3_freeParts_9 : decode cX3_freeParts 9 = .ok (.if_icmp .ge 21, 3) := by decide +kernel
theorem dX3_freeParts_12 : decode cX3_freeParts 12 = .ok (.aload_n 0, 1) := by decide +kernel
theorem dX3_freeParts_13 : decode cX3_freeParts 13 = .ok (.getfield 9, 3) := by decide +kernel
theorem dX3_freeParts_16 : decode cX3_freeParts 16 = .ok (.iload_n 2, 1) := by decide +kernel
theorem dX3_freeParts_17 : decode cX3_freeParts 17 = .ok (.iaload, 1) := by decide +kernel
theorem dX3_freeParts_18 : decode cX3_freeParts 18 = .ok (.ifCond .le 6, 3) := by decide +kernel
theorem dX3_freeParts_21 : decode cX3_freeParts 21 = .ok (.iinc 1 1, 3) := by decide +kernel
theorem dX3_freeParts_24 : decode cX3_freeParts 24 = .ok (.iinc 2 1, 3) := by decide +kernel
theorem dX3_freeParts_27 : decode cX3_freeParts 27 = .ok (.goto (-23), 3) := by decide +kernel
theorem dX3_freeParts_30 : decode cX3_freeParts 30 = .ok (.iload_n 1, 1) := by decide +kernel
theorem dX3_freeParts_31 : decode cX3_freeParts 31 = .ok (.ireturn, 1) := by decide +kernel
set_option maxRecDepth 20000 in
theorem ggX4_init_X1_init : GoodIn wsX4_init wsX1_init := by first | exact goodIn_sub (show zy_S _ wsX4_init from (zy_c (zy_t (zy_l (zy_l (zy_l (zy_l (zy_l (zy_l (zy_l (zy_l (zy_l (zy_t (zy_t (zy_t (zy_t (zy_t (zy_t (zy_t zy_h))))))))))))))))) (zy_a (zy_a (zy_a (zy_a (zy_a (zy_a (zy_a (zy_c (zy_t (zy_l (zy_l (zy_l (zy_l (zy_l (zy_l (zy_l (zy_l (zy_l (zy_t (zy_t (zy_t (zy_t (zy_t (zy_t (zy_t (zy_t zy_h)))))))))))))))))) (zy_c (zy_t (zy_l (zy_l (zy_l (zy_l (zy_l (zy_l (zy_l (zy_l (zy_l (zy_t (zy_t (zy_t (zy_t (zy_t (zy_t (zy_t (zy_t (zy_t zy_h))))))))))))))))))) (zy_c (zy_t (zy_l (zy_l (zy_l (zy_l (zy_l (zy_l (zy_l (zy_l (zy_l (zy_t (zy_t (zy_t (zy_t (zy_t (zy_t (zy_t (zy_t (zy_t (zy_t zy_h)))))))))))))))))))) (zy_c (zy_t (zy_l (zy_l (zy_l (zy_l (zy_l (zy_l (zy_l (zy_l (zy_l (zy_t (zy_t (zy_t (zy_t (zy_t (zy_t (zy_t (zy_t (zy_t (zy_t (zy_t zy_h))))))))))))))))))))) zy_n)))) (zy_p (fun _ h => (zy_t (zy_l (zy_l (zy_l (zy_l (zy_l (zy_r h)))))))))) (zy_p (fun _ h => (zy_t (zy_l (zy_l (zy_l (zy_l (zy_r h))))))))) (zy_p (fun _ h => (zy_t (zy_l (zy_l (zy_l (zy_r h)))))))) (zy_p (fun _ h => (zy_t (zy_l (zy_l (zy_l (zy_l (zy_l (zy_l (zy_r h))))))))))) (zy_p (fun _ h => (zy_t (zy_l (zy_l (zy_r h))))))) (zy_p (fun _ h => (zy_t (zy_l (zy_r h)))))) (zy_p (fun _ h => (zy_t (zy_r h))))))) (by decide +kernel) | exact goodIn_r _ [8, 9, 10, 11, 12, 32, 33, 34, 35, 36, 37, 38, 39, 30, 31, 40, 41, 42, 43, 44, 45, 46, 47] (by decide +kernel) (by decide +kernel)
set_option maxRecDepth 20000 in
theorem gX4_init_X1_init : GoodIn wsX4_init (wsX1_init) := ggX4_init_X1_init
set_option maxRecDepth 20000 in
theorem ggX4_init_X10_init : GoodIn wsX4_init wsX10_init := by first | exact goodIn_sub (show zy_S _ wsX4_init from (zy_c (zy_t (zy_l (zy_l (zy_l (zy_l (zy_l (zy_l (zy_l (zy_l (zy_l (zy_t (zy_t (zy_t (zy_t (zy_t (zy_t (zy_t (zy_t (zy_t (zy_t (zy_t (zy_t (zy_t (zy_t zy_h)))))))))))))))))))))))) (zy_a (zy_c (zy_t (zy_l (zy_l (zy_l (zy_l (zy_l (zy_l (zy_l (zy_l (zy_l (zy_t (zy_t (zy_t (zy_t (zy_t (zy_t (zy_t (zy_t (zy_t (zy_t (zy_t (zy_t (zy_t (zy_t (zy_t zy_h))))))))))))))))))))))))) (zy_c (zy_t (zy_l (zy_l (zy_l (zy_l (zy_l (zy_l (zy_l (zy_l (zy_l (zy_t (zy_t (zy_t (zy_t (zy_t (zy_t (zy_t (zy_t (zy_t zy_h))))))))))))))))))) (zy_c (zy_t (zy_l (zy_l (zy_l (zy_l (zy_l (zy_l (zy_l (zy_l (zy_l (zy_t (zy_t (zy_t (zy_t (zy_t (zy_t (zy_t (zy_t (zy_t (zy_t zy_h)))))))))))))))))))) (zy_c (zy_t (zy_l (zy_l (zy_l (zy_l (zy_l (zy_l (zy_l (zy_l (zy_l (zy_t (zy_t (zy_t (zy_t (zy_t (zy_t (zy_t (zy_t (zy_t (zy_t (zy_t (zy_t (zy_t (zy_t (zy_t (zy_t zy_h)))))))))))))))))))))))))) (zy_c (zy_t (zy_l (zy_l (zy_l (zy_l (zy_l (zy_l (zy_l (zy_l (zy_l (zy_t (zy_t (zy_t (zy_t (zy_t (zy_t (zy_t (zy_t (zy_t (zy_t (zy_t (zy_t (zy_t (zy_t (zy_t (zy_t (zy_t zy_h))))))))))))))))))))))))))) (zy_c (zy_t (zy_l (zy_l (zy_l (zy_l (zy_l (zy_l (zy_l (zy_l (zy_l (zy_t (zy_t (zy_t (zy_t (zy_t (zy_t (zy_t (zy_t (zy_t (zy_t (zy_t (zy_t (zy_t (zy_t (zy_t (zy_t (zy_t (zy_t zy_h)))))))))))))))))))))))))))) (zy_c (zy_t (zy_l (zy_l (zy_l (zy_l (zy_l (zy_l (zy_l (zy_l (zy_l (zy_t (zy_t (zy_t (zy_t (zy_t (zy_t (zy_t (zy_t (zy_t (zy_t (zy_t (zy_t (zy_t (zy_t (zy_t (zy_t (zy_t (zy_t (zy_t zy_h))))))))))))))))))))))))))))) (zy_c (zy_t (zy_l (zy_l (zy_l (zy_l (zy_l (zy_l (zy_l (zy_l (zy_l (zy_t (zy_t (zy_t (zy_t (zy_t (zy_t (zy_t (zy_t (zy_t (zy_t (zy_t (zy_t (zy_t (zy_t (zy_t (zy_t (zy_t (zy_t (zy_t (zy_t zy_h)))))))))))))))))))))))))))))) (zy_c (zy_t (zy_l (zy_l (zy_l (zy_l (zy_l (zy_l (zy_l (zy_l (zy_l (zy_t (zy_t (zy_t (zy_t (zy_t (zy_t (zy_t (zy_t (zy_t (zy_t (zy_t (zy_t (zy_t (zy_t (zy_t (zy_t (zy_t (zy_t (zy_t (zy_t (zy_t zy_h))))))))))))))))))))))))))))))) (zy_c (zy_t (zy_l (zy_l (zy_l (zy_l (zy_l (zy_l (zy_l (zy_l (zy_l (zy_t (zy_t (zy_t (zy_t (zy_t (zy_t (zy_t (zy_t (zy_t (zy_t (zy_t (zy_t (zy_t (zy_t (zy_t (zy_t (zy_t (zy_t (zy_t (zy_t (zy_t (zy_t zy_h)))))))))))))))))))))))))))))))) (zy_c (zy_t (zy_l (zy_l (zy_l (zy_l (zy_l (zy_l (zy_l (zy_l (zy_l (zy_t (zy_t (zy_t (zy_t (zy_t (zy_t (zy_t (zy_t (zy_t (zy_t (zy_t (zy_t (zy_t (zy_t (zy_t (zy_t (zy_t (zy_t (zy_t (zy_t (zy_t (zy_t (zy_t zy_h))))))))))))))))))))))))))))))))) (zy_c (zy_t (zy_l (zy_l (zy_l (zy_l (zy_l (zy_l (zy_l (zy_l (zy_r zy_h)))))))))) zy_n)))))))))))) (zy_p (fun _ h => (zy_t (zy_l (zy_l (zy_l (zy_l (zy_l (zy_l (zy_l (zy_r h)))))))))))))) (by decide +kernel) | exact goodIn_r _ [15, 16, 10, 11, 17, 18, 19, 20, 21, 22, 23, 24, 25, 26, 27, 28, 29] (by decide +kernel) (by decide +kernel)
set_option maxRecDepth 20000 in
theorem gX4_init_X10_init : GoodIn wsX4_init (wsX10_init) := ggX4_init_X10_init
theorem dX4_init_0 : decode cX4_init 0 = .ok (.aload_n 0, 1) := by decide +kernel
theorem dX4_init_1 : decode cX4_init 1 = .ok (.aload_n 1, 1) := by decide +kernel
theorem dX4_init_2 : decode cX4_init 2 = .ok (.invokespecial 3, 3) := by decide +kernel
theorem dX4_init_5 : decode cX4_init 5 = .ok (.aload_n 0, 1) := by decide +kernel
theorem dX4_init_6 : decode cX4_init 6 = .ok (.new 9, 3) := by decide +kernel
theorem dX4_init_9 : decode cX4_init 9 = .ok (.dup, 1) := by decide +kernel
theorem dX4_init_10 : decode cX4_init 10 = .ok (.sipush 201, 3) := by decide +kernel
theorem dX4_init_13 : decode cX4_init 13 = .ok (.invokespecial 11, 3) := by decide +kernel
theorem dX4_init_16 : decode cX4_init 16 = .ok (.putfield 14, 3) := by decide +kernel
theorem dX4_init_19 : decode cX4_init 19 = .ok (.return_, 1) := by decide +kernel
set_option maxRecDepth 20000 in
theorem ggX4_begin_X10_clear : GoodIn wsX4_begin wsX10_clear := by first | exact goodIn_sub (show zy_S _ wsX4_begin from (zy_c (zy_t (zy_l (zy_l (zy_l (zy_l (zy_l (zy_l (zy_l (zy_l (zy_l (zy_t (zy_t (zy_t (zy_t (zy_t (zy_t (zy_t zy_h))))))))))))))))) (zy_a (zy_c (zy_t (zy_l (zy_l (zy_l (zy_l (zy_l (zy_l (zy_l (zy_l (zy_l (zy_t (zy_t (zy_t (zy_t (zy_t (zy_t (zy_t (zy_t zy_h)))))))))))))))))) zy_n) (zy_p (fun _ h => (zy_t (zy_l (zy_r h)))))))) (by decide +kernel) | exact goodIn_r _ [8, 9, 40, 41, 42, 43] (by decide +kernel) (by decide +kernel)
set_option maxRecDepth 20000 in
theorem gX4_begin_X10_clear : GoodIn wsX4_begin (wsV RX4 20 RX10 yX10_clear wsX10_clear) := by first | exact goodIn_app (goodIn_sub (show zy_S _ wsX4_begin from (zy_c (zy_t (zy_l (zy_l (zy_l (zy_l (zy_l (zy_l (zy_l (zy_l (zy_l (zy_t (zy_t (zy_t zy_h))))))))))))) (zy_c (zy_t (zy_l (zy_l (zy_l (zy_l (zy_l (zy_l (zy_l (zy_l (zy_l (zy_t (zy_t (zy_t (zy_t zy_h)))))))))))))) (zy_c (zy_t (zy_l (zy_l (zy_l (zy_l (zy_l (zy_l (zy_l (zy_l (zy_l (zy_t (zy_t (zy_t (zy_t (zy_t zy_h))))))))))))))) (zy_c (zy_t (zy_l (zy_l (zy_l (zy_l (zy_l (zy_l (zy_l (zy_l (zy_l (zy_t (zy_t (zy_t (zy_t (zy_t (zy_t zy_h)))))))))))))))) zy_n))))) (by decide +kernel)) ggX4_begin_X10_clear | exact goodIn_app (goodIn_of _ (by decide +kernel)) ggX4_begin_X10_clear
set_option maxRecDepth 20000 in
theorem ggX4_begin_X7_words : GoodIn wsX4_begin wsX7_words := by first | exact goodIn_sub (show zy_S _ wsX4_begin from (zy_c (zy_t (zy_l (zy_l (zy_l (zy_l (zy_l (zy_l (zy_l (zy_l (zy_l (zy_t (zy_t (zy_t (zy_t (zy_t (zy_t (zy_t (zy_t (zy_t (zy_t (zy_t (zy_t (zy_t zy_h))))))))))))))))))))))) (zy_a (zy_c (zy_t (zy_l (zy_l (zy_l (zy_l (zy_l (zy_l (zy_l (zy_l (zy_l (zy_t (zy_t (zy_t (zy_t (zy_t (zy_t (zy_t (zy_t (zy_t (zy_t (zy_t (zy_t (zy_t (zy_t zy_h)))))))))))))))))))))))) zy_n) (zy_p (fun _ h => (zy_t (zy_r h))))))) (by decide +kernel) | exact goodIn_r _ [14, 15, 44, 45, 46, 47, 48, 49, 50, 51, 52, 53] (by decide +kernel) (by decide +kernel)
set_option maxRecDepth 20000 in
theorem gX4_begin_X7_words : GoodIn wsX4_begin (wsV RX4 28 RX7 yX7_words wsX7_words) := by first | exact goodIn_app (goodIn_sub (show zy_S _ wsX4_begin from (zy_c (zy_t (zy_l (zy_l (zy_l (zy_l (zy_l (zy_l (zy_l (zy_l (zy_l (zy_t (zy_t (zy_t (zy_t (zy_t (zy_t (zy_t (zy_t (zy_t zy_h))))))))))))))))))) (zy_c (zy_t (zy_l (zy_l (zy_l (zy_l (zy_l (zy_l (zy_l (zy_l (zy_l (zy_t (zy_t (zy_t (zy_t (zy_t (zy_t (zy_t (zy_t (zy_t (zy_t zy_h)))))))))))))))))))) (zy_c (zy_t (zy_l (zy_l (zy_l (zy_l (zy_l (zy_l (zy_l (zy_l (zy_l (zy_t (zy_t (zy_t (zy_t (zy_t (zy_t (zy_t (zy_t (zy_t (zy_t (zy_t zy_h))))))))))))))))))))) (zy_c (zy_t (zy_l (zy_l (zy_l (zy_l (zy_l (zy_l (zy_l (zy_l (zy_l (zy_t (zy_t (zy_t (zy_t (zy_t (zy_t (zy_t (zy_t (zy_t (zy_t (zy_t (zy_t zy_h)))))))))))))))))))))) zy_n))))) (by decide +kernel)) ggX4_begin_X7_words | exact goodIn_app (goodIn_of _ (by decide +kernel)) ggX4_begin_X7_words
set_option maxRecDepth 20000 in
theorem ggX4_begin_X10_add : GoodIn wsX4_begin wsX10_add := by first | exact goodIn_sub (show zy_S _ wsX4_begin from (zy_c (zy_t (zy_l (zy_l (zy_l (zy_l (zy_l (zy_l (zy_l (zy_l (zy_l (zy_t (zy_t (zy_t (zy_t (zy_t (zy_t (zy_t (zy_t (zy_t (zy_t (zy_t (zy_t (zy_t (zy_t (zy_t (zy_t (zy_t (zy_t zy_h)))))))))))))))))))))))))))) (zy_a (zy_c (zy_t (zy_l (zy_l (zy_l (zy_l (zy_l (zy_l (zy_l (zy_l (zy_l (zy_t (zy_t (zy_t (zy_t (zy_t (zy_t (zy_t (zy_t zy_h)))))))))))))))))) (zy_c (zy_t (zy_l (zy_l (zy_l (zy_l (zy_l (zy_l (zy_l (zy_l (zy_l (zy_t (zy_t (zy_t (zy_t (zy_t (zy_t (zy_t (zy_t (zy_t (zy_t (zy_t (zy_t (zy_t (zy_t (zy_t (zy_t (zy_t (zy_t (zy_t zy_h))))))))))))))))))))))))))))) (zy_c (zy_t (zy_l (zy_l (zy_l (zy_l (zy_l (zy_l (zy_l (zy_l (zy_l (zy_t (zy_t (zy_t (zy_t (zy_t (zy_t (zy_t (zy_t (zy_t (zy_t (zy_t (zy_t (zy_t (zy_t (zy_t (zy_t (zy_t (zy_t (zy_t (zy_t zy_h)))))))))))))))))))))))))))))) zy_n))) (zy_p (fun _ h => (zy_t (zy_l (zy_r h)))))))) (by decide +kernel) | exact goodIn_r _ [19, 9, 20, 21, 40, 41, 42, 43] (by decide +kernel) (by decide +kernel)
set_option maxRecDepth 20000 in
theorem gX4_begin_X10_add : GoodIn wsX4_begin (wsV RX4 34 RX10 yX10_add wsX10_add) := by first | exact goodIn_app (goodIn_sub (show zy_S _ wsX4_begin from (zy_c (zy_t (zy_l (zy_l (zy_l (zy_l (zy_l (zy_l (zy_l (zy_l (zy_l (zy_t (zy_t (zy_t (zy_t (zy_t (zy_t (zy_t (zy_t (zy_t (zy_t (zy_t (zy_t (zy_t (zy_t (zy_t zy_h))))))))))))))))))))))))) (zy_c (zy_t (zy_l (zy_l (zy_l (zy_l (zy_l (zy_l (zy_l (zy_l (zy_l (zy_t (zy_t (zy_t (zy_t (zy_t (zy_t (zy_t (zy_t (zy_t (zy_t (zy_t (zy_t (zy_t (zy_t (zy_t (zy_t zy_h)))))))))))))))))))))))))) (zy_c (zy_t (zy_l (zy_l (zy_l (zy_l (zy_l (zy_l (zy_l (zy_l (zy_l (zy_t (zy_t (zy_t (zy_t (zy_t (zy_t (zy_t (zy_t (zy_t (zy_t (zy_t (zy_t (zy_t (zy_t (zy_t (zy_t (zy_t zy_h))))))))))))))))))))))))))) (zy_c (zy_t (zy_l (zy_l (zy_l (zy_l (zy_l (zy_l (zy_l (zy_l (zy_l (zy_t (zy_t (zy_t (zy_t (zy_t (zy_t zy_h)))))))))))))))) zy_n))))) (by decide +kernel)) ggX4_begin_X10_add | exact goodIn_app (goodIn_of _ (by decide +kernel)) ggX4_begin_X10_add
theorem dX4_begin_0 : decode cX4_begin 0 = .ok (.aload_n 0, 1) := by decide +kernel
theorem dX4_begin_1 : decode cX4_begin 1 = .ok (.getfield 14, 3) := by decide +kernel
theorem dX4_begin_4 : decode cX4_begin 4 = .ok (.invokevirtual 20, 3) := by decide +kernel
theorem dX4_begin_7 : decode cX4_begin 7 = .ok (.aload_n 0, 1) := by decide +kernel
theorem dX4_begin_8 : decode cX4_begin 8 = .ok (.getfield 14, 3) := by decide +kernel
theorem dX4_begin_11 : decode cX4_begin 11 = .ok (.iconst 0, 1) := by decide +kernel
theorem dX4_begin_12 : decode cX4_begin 12 = .ok (.aload_n 0, 1) := by decide +kernel
theorem dX4_begin_13 : decode cX4_begin 13 = .ok (.getfield 24, 3) := by decide +kernel
theorem dX4_begin_16 : decode cX4_begin 16 = .ok (.invokevirtual 28, 3) := by decide +kernel
theorem dX4_begin_19 : decode cX4_begin 19 = .ok (.invokevirtual 34, 3) := by decide +kernel
theorem dX4_begin_22 : decode cX4_begin 22 = .ok (.return_, 1) := by decide +kernel
set_option maxRecDepth 20000 in
theorem ggX4_take_X4_findInListOf : GoodIn wsX4_take wsX4_findInListOf := by first | exact goodIn_sub (show zy_S _ wsX4_take from (zy_c (zy_t (zy_l (zy_l (zy_l (zy_l (zy_l (zy_l (zy_l (zy_l (zy_l (zy_l (zy_t (zy_t (zy_t (zy_t (zy_t zy_h)))))))))))))))) (zy_a (zy_a (zy_a (zy_a (zy_a (zy_a (zy_a (zy_a (zy_a (zy_c (zy_t (zy_l (zy_l (zy_l (zy_l (zy_l (zy_l (zy_l (zy_l (zy_l (zy_l zy_h))))))))))) (zy_c (zy_t (zy_l (zy_l (zy_l (zy_l (zy_l (zy_l (zy_l (zy_l (zy_l (zy_l (zy_t (zy_t (zy_t (zy_t (zy_t (zy_t zy_h))))))))))))))))) (zy_c (zy_t (zy_l (zy_l (zy_l (zy_l (zy_l (zy_l (zy_l (zy_l (zy_l (zy_l (zy_t (zy_t (zy_t (zy_t (zy_t (zy_t (zy_t zy_h)))))))))))))))))) (zy_c (zy_t (zy_l (zy_l (zy_l (zy_l (zy_l (zy_l (zy_l (zy_l (zy_l (zy_l (zy_t (zy_t (zy_t (zy_t (zy_t (zy_t (zy_t (zy_t zy_h))))))))))))))))))) (zy_c (zy_t (zy_l (zy_l (zy_l (zy_l (zy_l (zy_l (zy_l (zy_l (zy_l (zy_l (zy_t (zy_t (zy_t (zy_t (zy_t (zy_t (zy_t (zy_t (zy_t zy_h)))))))))))))))))))) (zy_c (zy_t (zy_l (zy_l (zy_l (zy_l (zy_l (zy_l (zy_l (zy_l (zy_l (zy_l (zy_t (zy_t (zy_t (zy_t zy_h))))))))))))))) (zy_c (zy_t (zy_l (zy_l (zy_l (zy_l (zy_l (zy_l (zy_l (zy_l (zy_l (zy_l (zy_t (zy_t (zy_t (zy_t (zy_t (zy_t (zy_t (zy_t (zy_t (zy_t zy_h))))))))))))))))))))) (zy_c (zy_t (zy_l (zy_l (zy_l (zy_l (zy_l (zy_l (zy_l (zy_l (zy_l (zy_l (zy_t (zy_t (zy_t (zy_t (zy_t (zy_t (zy_t (zy_t (zy_t (zy_t (zy_t zy_h)))))))))))))))))))))) (zy_c (zy_t (zy_l (zy_l (zy_l (zy_l (zy_l (zy_l (zy_l (zy_l (zy_l (zy_l (zy_t (zy_t (zy_t (zy_t (zy_t (zy_t (zy_t (zy_t (zy_t (zy_t (zy_t (zy_t zy_h))))))))))))))))))))))) (zy_c (zy_t (zy_l (zy_l (zy_l (zy_l (zy_l (zy_l (zy_l (zy_l (zy_l (zy_l (zy_t (zy_t (zy_t (zy_t (zy_t (zy_t (zy_t (zy_t (zy_t (zy_t (zy_t (zy_t (zy_t zy_h)))))))))))))))))))))))) (zy_c (zy_t (zy_l (zy_l (zy_l (zy_l (zy_l (zy_l (zy_l (zy_l (zy_l (zy_l (zy_t (zy_t (zy_t (zy_t (zy_t (zy_t (zy_t (zy_t (zy_t (zy_t (zy_t (zy_t (zy_t (zy_t zy_h))))))))))))))))))))))))) (zy_c (zy_t (zy_l (zy_l (zy_l (zy_l (zy_l (zy_l (zy_l (zy_l (zy_l (zy_l (zy_t (zy_t (zy_t (zy_t (zy_t (zy_t (zy_t (zy_t (zy_t (zy_t (zy_t (zy_t (zy_t (zy_t (zy_t zy_h)))))))))))))))))))))))))) (zy_c (zy_t (zy_l (zy_l (zy_l (zy_l (zy_l (zy_l (zy_l (zy_l (zy_l (zy_l (zy_t (zy_t (zy_t (zy_t (zy_t (zy_t (zy_t (zy_t (zy_t (zy_t (zy_t (zy_t (zy_t (zy_t (zy_t (zy_t zy_h))))))))))))))))))))))))))) (zy_c (zy_t (zy_l (zy_l (zy_l (zy_l (zy_l (zy_l (zy_l (zy_l (zy_l (zy_l (zy_t (zy_t (zy_t (zy_t (zy_t (zy_t (zy_t (zy_t (zy_t (zy_t (zy_t (zy_t (zy_t (zy_t (zy_t (zy_t (zy_t zy_h)))))))))))))))))))))))))))) (zy_c (zy_t (zy_l (zy_l (zy_l (zy_l (zy_l (zy_l (zy_l (zy_l (zy_l (zy_l (zy_t (zy_t (zy_t (zy_t (zy_t (zy_t (zy_t (zy_t (zy_t (zy_t (zy_t (zy_t (zy_t (zy_t (zy_t (zy_t (zy_t (zy_t zy_h))))))))))))))))))))))))))))) (zy_c (zy_t (zy_l (zy_l (zy_l (zy_l (zy_l (zy_l (zy_l (zy_l (zy_l (zy_l (zy_t (zy_t (zy_t (zy_t (zy_t (zy_t (zy_t (zy_t (zy_t (zy_t (zy_t (zy_t (zy_t (zy_t (zy_t (zy_t (zy_t (zy_t (zy_t zy_h)))))))))))))))))))))))))))))) (zy_c (zy_t (zy_l (zy_l (zy_l (zy_l (zy_l (zy_l (zy_l (zy_l (zy_l (zy_l (zy_t (zy_t (zy_t (zy_t (zy_t (zy_t (zy_t (zy_t (zy_t (zy_t (zy_t (zy_t (zy_t (zy_t (zy_t (zy_t (zy_t (zy_t (zy_t (zy_t zy_h))))))))))))))))))))))))))))))) (zy_c (zy_t (zy_l (zy_l (zy_l (zy_l (zy_l (zy_l (zy_l (zy_l (zy_l (zy_l (zy_t (zy_t (zy_t (zy_t (zy_t (zy_t (zy_t (zy_t (zy_t (zy_t (zy_t (zy_t (zy_t (zy_t (zy_t (zy_t (zy_t (zy_t (zy_t (zy_t (zy_t zy_h)))))))))))))))))))))))))))))))) (zy_c (zy_t (zy_l (zy_l (zy_l (zy_l (zy_l (zy_l (zy_l (zy_l (zy_l (zy_l (zy_t (zy_t (zy_t (zy_t (zy_t (zy_t (zy_t (zy_t (zy_t (zy_t (zy_t (zy_t (zy_t (zy_t (zy_t (zy_t (zy_t (zy_t (zy_t (zy_t (zy_t (zy_t zy_h))))))))))))))))))))))))))))))))) (zy_c (zy_t (zy_l (zy_l (zy_l (zy_l (zy_l (zy_l (zy_l (zy_l (zy_l (zy_l (zy_t (zy_t (zy_t (zy_t (zy_t (zy_t (zy_t (zy_t (zy_t (zy_t (zy_t (zy_t (zy_t (zy_t (zy_t (zy_t (zy_t (zy_t (zy_t (zy_t (zy_t (zy_t (zy_t zy_h)))))))))))))))))))))))))))))))))) (zy_c (zy_t (zy_l (zy_l (zy_l (zy_l (zy_l (zy_l (zy_l (zy_l (zy_l (zy_r (zy_l zy_h)))))))))))) (zy_c (zy_t (zy_l (zy_l (zy_l (zy_l (zy_l (zy_l (zy_l (zy_l (zy_l (zy_r (zy_l (zy_t zy_h))))))))))))) (zy_c (zy_t (zy_l (zy_l (zy_l (zy_l (zy_l (zy_l (zy_l (zy_l (zy_l (zy_r (zy_l (zy_t (zy_t zy_h)))))))))))))) (zy_c (zy_t (zy_l (zy_l (zy_l (zy_l (zy_l (zy_l (zy_l (zy_l (zy_l (zy_r (zy_l (zy_t (zy_t (zy_t zy_h))))))))))))))) zy_n)))))))))))))))))))))))) (zy_p (fun _ h => (zy_t (zy_l (zy_l (zy_l (zy_l (zy_l (zy_l (zy_l (zy_l (zy_r h))))))))))))) (zy_p (fun _ h => (zy_t (zy_l (zy_l (zy_l (zy_l (zy_l (zy_l (zy_l (zy_r h)))))))))))) (zy_p (fun _ h => (zy_t (zy_l (zy_l (zy_l (zy_l (zy_l (zy_l (zy_r h))))))))))) (zy_p (fun _ h => (zy_t (zy_l (zy_l (zy_l (zy_l (zy_l (zy_r h)))))))))) (zy_p (fun _ h => (zy_t (zy_l (zy_l (zy_l (zy_l (zy_r h))))))))) (zy_p (fun _ h => (zy_t (zy_l (zy_l (zy_l (zy_r h)))))))) (zy_p (fun _ h => (zy_t (zy_l (zy_l (zy_r h))))))) (zy_p (fun _ h => (zy_t (zy_l (zy_r h)))))) (zy_p (fun _ h => (zy_t (zy_r h))))))) (by decide +kernel) | exact goodIn_r _ [6, 1, 7, 8, 9, 10, 5, 11, 12, 13, 14, 15, 16, 17, 18, 19, 20, 21, 22, 23, 24, 25, 26, 27, 28, 50, 51, 52, 53, 54, 55, 56, 57, 58, 59, 60, 61, 62, 63, 64, 65, 66, 67, 68, 69, 70, 71, 72, 73, 74, 75, 76, 77, 78, 79, 80, 81] (by decide +kernel) (by decide +kernel)
set_option maxRecDepth 20000 in
theorem gX4_take_X4_findInListOf : GoodIn wsX4_take (wsV RX4 38 RX4 yX4_findInListOf wsX4_findInListOf) := by first | exact goodIn_app (goodIn_sub (show zy_S _ wsX4_take from (zy_c (zy_t (zy_l (zy_l (zy_l (zy_l (zy_l (zy_l (zy_l (zy_l (zy_l (zy_l (zy_t zy_h)))))))))))) (zy_c (zy_t (zy_l (zy_l (zy_l (zy_l (zy_l (zy_l (zy_l (zy_l (zy_l (zy_l (zy_t (zy_t zy_h))))))))))))) (zy_c (zy_t (zy_l (zy_l (zy_l (zy_l (zy_l (zy_l (zy_l (zy_l (zy_l (zy_l (zy_t (zy_t (zy_t zy_h)))))))))))))) (zy_c (zy_t (zy_l (zy_l (zy_l (zy_l (zy_l (zy_l (zy_l (zy_l (zy_l (zy_l (zy_t (zy_t (zy_t (zy_t zy_h))))))))))))))) zy_n))))) (by decide +kernel)) ggX4_take_X4_findInListOf | exact goodIn_app (goodIn_of _ (by decide +kernel)) ggX4_take_X4_findInListOf
set_option maxRecDepth 20000 in
theorem ggX4_take_X4_listOf : GoodIn wsX4_take wsX4_listOf := by first | exact goodIn_sub (show zy_S _ wsX4_take from (zy_c (zy_t (zy_l (zy_l (zy_l (zy_l (zy_l (zy_l (zy_l (zy_l (zy_l (zy_l (zy_t (zy_t (zy_t (zy_t (zy_t (zy_t (zy_t (zy_t (zy_t (zy_t zy_h))))))))))))))))))))) zy_n)) (by decide +kernel) | exact goodIn_r _ [11] (by decide +kernel) (by decide +kernel)
set_option maxRecDepth 20000 in
theorem gX4_take_X4_listOf : GoodIn wsX4_take (va_wsS RX4 42 yX4_listOf wsX4_listOf) := by first | exact goodIn_app (goodIn_sub (show zy_S _ wsX4_take from (zy_c (zy_t (zy_l (zy_l (zy_l (zy_l (zy_l (zy_l (zy_l (zy_l (zy_l (zy_l (zy_t (zy_t (zy_t (zy_t (zy_t (zy_t (zy_t (zy_t zy_h))))))))))))))))))) (zy_c (zy_t (zy_l (zy_l (zy_l (zy_l (zy_l (zy_l (zy_l (zy_l (zy_l (zy_l (zy_t (zy_t (zy_t (zy_t (zy_t (zy_t (zy_t (zy_t (zy_t zy_h)))))))))))))))))))) (zy_c (zy_t (zy_l (zy_l (zy_l (zy_l (zy_l (zy_l (zy_l (zy_l (zy_l (zy_l (zy_t (zy_t (zy_t (zy_t zy_h))))))))))))))) zy_n)))) (by decide +kernel)) ggX4_take_X4_listOf | exact goodIn_app (goodIn_of _ (by decide +kernel)) ggX4_take_X4_listOf
set_option maxRecDepth 20000 in
theorem ggX4_take_X4_firstOfLaterList : GoodIn wsX4_take wsX4_firstOfLaterList := by first | exact goodIn_sub (show zy_S _ wsX4_take from (zy_c (zy_t (zy_l (zy_l (zy_l (zy_l (zy_l (zy_l (zy_l (zy_l (zy_l (zy_r (zy_l (zy_t (zy_t (zy_t (zy_t (zy_t (zy_t (zy_t zy_h))))))))))))))))))) (zy_a (zy_a (zy_c (zy_t (zy_l (zy_l (zy_l (zy_l (zy_l (zy_l (zy_l (zy_l (zy_l (zy_l zy_h))))))))))) (zy_c (zy_t (zy_l (zy_l (zy_l (zy_l (zy_l (zy_l (zy_l (zy_l (zy_l (zy_l (zy_t (zy_t (zy_t (zy_t (zy_t (zy_t (zy_t (zy_t (zy_t (zy_t (zy_t zy_h)))))))))))))))))))))) (zy_c (zy_t (zy_l (zy_l (zy_l (zy_l (zy_l (zy_l (zy_l (zy_l (zy_l (zy_l (zy_t (zy_t (zy_t (zy_t (zy_t (zy_t (zy_t (zy_t (zy_t (zy_t (zy_t (zy_t zy_h))))))))))))))))))))))) (zy_c (zy_t (zy_l (zy_l (zy_l (zy_l (zy_l (zy_l (zy_l (zy_l (zy_l (zy_l (zy_t (zy_t (zy_t (zy_t (zy_t (zy_t (zy_t (zy_t (zy_t (zy_t (zy_t (zy_t (zy_t zy_h)))))))))))))))))))))))) (zy_c (zy_t (zy_l (zy_l (zy_l (zy_l (zy_l (zy_l (zy_l (zy_l (zy_l (zy_l (zy_t (zy_t (zy_t (zy_t (zy_t (zy_t (zy_t (zy_t (zy_t (zy_t (zy_t (zy_t (zy_t (zy_t zy_h))))))))))))))))))))))))) (zy_c (zy_t (zy_l (zy_l (zy_l (zy_l (zy_l (zy_l (zy_l (zy_l (zy_l (zy_l (zy_t (zy_t (zy_t (zy_t (zy_t (zy_t (zy_t (zy_t (zy_t (zy_t (zy_t (zy_t (zy_t (zy_t (zy_t zy_h)))))))))))))))))))))))))) (zy_c (zy_t (zy_l (zy_l (zy_l (zy_l (zy_l (zy_l (zy_l (zy_l (zy_l (zy_l (zy_t (zy_t (zy_t (zy_t (zy_t (zy_t (zy_t (zy_t (zy_t (zy_t (zy_t (zy_t (zy_t (zy_t (zy_t (zy_t zy_h))))))))))))))))))))))))))) (zy_c (zy_t (zy_l (zy_l (zy_l (zy_l (zy_l (zy_l (zy_l (zy_l (zy_l (zy_l (zy_t (zy_t (zy_t (zy_t (zy_t (zy_t (zy_t (zy_t (zy_t (zy_t (zy_t (zy_t (zy_t (zy_t (zy_t (zy_t (zy_t zy_h)))))))))))))))))))))))))))) (zy_c (zy_t (zy_l (zy_l (zy_l (zy_l (zy_l (zy_l (zy_l (zy_l (zy_l (zy_l (zy_t (zy_t (zy_t (zy_t (zy_t (zy_t (zy_t (zy_t (zy_t (zy_t (zy_t (zy_t (zy_t (zy_t (zy_t (zy_t (zy_t (zy_t zy_h))))))))))))))))))))))))))))) (zy_c (zy_t (zy_l (zy_l (zy_l (zy_l (zy_l (zy_l (zy_l (zy_l (zy_l (zy_l (zy_t (zy_t (zy_t (zy_t (zy_t (zy_t (zy_t (zy_t (zy_t (zy_t (zy_t (zy_t (zy_t (zy_t (zy_t (zy_t (zy_t (zy_t (zy_t zy_h)))))))))))))))))))))))))))))) (zy_c (zy_t (zy_l (zy_l (zy_l (zy_l (zy_l (zy_l (zy_l (zy_l (zy_l (zy_l (zy_t (zy_t (zy_t (zy_t (zy_t (zy_t (zy_t (zy_t (zy_t (zy_t (zy_t (zy_t (zy_t (zy_t (zy_t (zy_t (zy_t (zy_t (zy_t (zy_t zy_h))))))))))))))))))))))))))))))) (zy_c (zy_t (zy_l (zy_l (zy_l (zy_l (zy_l (zy_l (zy_l (zy_l (zy_l (zy_l (zy_t (zy_t (zy_t (zy_t (zy_t (zy_t (zy_t (zy_t (zy_t (zy_t (zy_t (zy_t (zy_t (zy_t (zy_t (zy_t (zy_t (zy_t (zy_t (zy_t (zy_t zy_h)))))))))))))))))))))))))))))))) (zy_c (zy_t (zy_l (zy_l (zy_l (zy_l (zy_l (zy_l (zy_l (zy_l (zy_l (zy_l (zy_t (zy_t (zy_t (zy_t (zy_t (zy_t (zy_t (zy_t zy_h))))))))))))))))))) (zy_c (zy_t (zy_l (zy_l (zy_l (zy_l (zy_l (zy_l (zy_l (zy_l (zy_l (zy_l (zy_t (zy_t (zy_t (zy_t (zy_t (zy_t (zy_t (zy_t (zy_t zy_h)))))))))))))))))))) (zy_c (zy_t (zy_l (zy_l (zy_l (zy_l (zy_l (zy_l (zy_l (zy_l (zy_l (zy_l (zy_t (zy_t (zy_t (zy_t zy_h))))))))))))))) (zy_c (zy_t (zy_l (zy_l (zy_l (zy_l (zy_l (zy_l (zy_l (zy_l (zy_l (zy_l (zy_t (zy_t (zy_t (zy_t (zy_t (zy_t (zy_t (zy_t (zy_t (zy_t zy_h))))))))))))))))))))) zy_n)))))))))))))))) (zy_p (fun _ h => (zy_t (zy_l (zy_l (zy_l (zy_l (zy_l (zy_l (zy_l (zy_l (zy_r h))))))))))))) (zy_p (fun _ h => (zy_t (zy_l (zy_r h)))))))) (by decide +kernel) | exact goodIn_r _ [32, 1, 12, 13, 14, 15, 16, 17, 18, 19, 20, 21, 22, 9, 10, 5, 11, 50, 51, 68, 69, 70, 71] (by decide +kernel) (by decide +kernel)
set_option maxRecDepth 20000 in
theorem gX4_take_X4_firstOfLaterList : GoodIn wsX4_take (wsV RX4 45 RX4 yX4_firstOfLaterList wsX4_firstOfLaterList) := by first | exact goodIn_app (goodIn_sub (show zy_S _ wsX4_take from (zy_c (zy_t (zy_l (zy_l (zy_l (zy_l (zy_l (zy_l (zy_l (zy_l (zy_l (zy_r (zy_l (zy_t (zy_t (zy_t (zy_t zy_h)))))))))))))))) (zy_c (zy_t (zy_l (zy_l (zy_l (zy_l (zy_l (zy_l (zy_l (zy_l (zy_l (zy_r (zy_l (zy_t (zy_t (zy_t (zy_t (zy_t zy_h))))))))))))))))) (zy_c (zy_t (zy_l (zy_l (zy_l (zy_l (zy_l (zy_l (zy_l (zy_l (zy_l (zy_r (zy_l (zy_t (zy_t (zy_t (zy_t (zy_t (zy_t zy_h)))))))))))))))))) (zy_c (zy_t (zy_l (zy_l (zy_l (zy_l (zy_l (zy_l (zy_l (zy_l (zy_l (zy_l (zy_t (zy_t (zy_t (zy_t zy_h))))))))))))))) zy_n))))) (by decide +kernel)) ggX4_take_X4_firstOfLaterList | exact goodIn_app (goodIn_of _ (by decide +kernel)) ggX4_take_X4_firstOfLaterList
set_option maxRecDepth 20000 in
theorem ggX4_take_X10_placeOf : GoodIn wsX4_take wsX10_placeOf := by first | exact goodIn_sub (show zy_S _ wsX4_take from (zy_c (zy_t (zy_l (zy_l (zy_l (zy_l (zy_l (zy_l (zy_l (zy_l (zy_l (zy_r (zy_l (zy_t (zy_t (zy_t (zy_t (zy_t (zy_t (zy_t (zy_t (zy_t (zy_t (zy_t zy_h))))))))))))))))))))))) (zy_a (zy_c (zy_t (zy_l (zy_l (zy_l (zy_l (zy_l (zy_l (zy_l (zy_l (zy_l (zy_l (zy_t (zy_t (zy_t (zy_t (zy_t (zy_t (zy_t (zy_t (zy_t (zy_t (zy_t (zy_t (zy_t (zy_t (zy_t (zy_t zy_h))))))))))))))))))))))))))) (zy_c (zy_t (zy_l (zy_l (zy_l (zy_l (zy_l (zy_l (zy_l (zy_l (zy_l (zy_r (zy_l (zy_t (zy_t (zy_t (zy_t (zy_t (zy_t (zy_t (zy_t (zy_t (zy_t (zy_t (zy_t zy_h)))))))))))))))))))))))) zy_n)) (zy_p (fun _ h => (zy_t (zy_l (zy_r h)))))))) (by decide +kernel) | exact goodIn_r _ [36, 17, 37, 68, 69, 70, 71] (by decide +kernel) (by decide +kernel)
set_option maxRecDepth 20000 in
theorem gX4_take_X10_placeOf : GoodIn wsX4_take (wsV RX4 48 RX10 yX10_placeOf wsX10_placeOf) := by first | exact goodIn_app (goodIn_sub (show zy_S _ wsX4_take from (zy_c (zy_t (zy_l (zy_l (zy_l (zy_l (zy_l (zy_l (zy_l (zy_l (zy_l (zy_r (zy_l (zy_t (zy_t (zy_t (zy_t (zy_t (zy_t (zy_t (zy_t zy_h)))))))))))))))))))) (zy_c (zy_t (zy_l (zy_l (zy_l (zy_l (zy_l (zy_l (zy_l (zy_l (zy_l (zy_r (zy_l (zy_t (zy_t (zy_t (zy_t (zy_t (zy_t (zy_t (zy_t (zy_t zy_h))))))))))))))))))))) (zy_c (zy_t (zy_l (zy_l (zy_l (zy_l (zy_l (zy_l (zy_l (zy_l (zy_l (zy_r (zy_l (zy_t (zy_t (zy_t (zy_t (zy_t (zy_t (zy_t (zy_t (zy_t (zy_t zy_h)))))))))))))))))))))) (zy_c (zy_t (zy_l (zy_l (zy_l (zy_l (zy_l (zy_l (zy_l (zy_l (zy_l (zy_l (zy_t (zy_t (zy_t (zy_t (zy_t (zy_t (zy_t (zy_t (zy_t (zy_t (zy_t (zy_t (zy_t (zy_t zy_h))))))))))))))))))))))))) zy_n))))) (by decide +kernel)) ggX4_take_X10_placeOf | exact goodIn_app (goodIn_of _ (by decide +kernel)) ggX4_take_X10_placeOf
set_option maxRecDepth 20000 in
theorem ggX4_take_X10_wordsOf : GoodIn wsX4_take wsX10_wordsOf := by first | exact goodIn_sub (show zy_S _ wsX4_take from (zy_c (zy_t (zy_l (zy_l (zy_l (zy_l (zy_l (zy_l (zy_l (zy_l (zy_l (zy_l (zy_t (zy_t (zy_t (zy_t (zy_t (zy_t (zy_t (zy_t (zy_t (zy_t (zy_t (zy_t (zy_t (zy_t (zy_t (zy_t (zy_t (zy_t (zy_t (zy_t zy_h))))))))))))))))))))))))))))))) (zy_a (zy_c (zy_t (zy_l (zy_l (zy_l (zy_l (zy_l (zy_l (zy_l (zy_l (zy_l (zy_l (zy_t (zy_t (zy_t (zy_t (zy_t (zy_t (zy_t (zy_t (zy_t (zy_t (zy_t (zy_t (zy_t (zy_t (zy_t (zy_t zy_h))))))))))))))))))))))))))) (zy_c (zy_t (zy_l (zy_l (zy_l (zy_l (zy_l (zy_l (zy_l (zy_l (zy_l (zy_l (zy_t (zy_t (zy_t (zy_t (zy_t (zy_t (zy_t (zy_t (zy_t (zy_t (zy_t (zy_t (zy_t (zy_t (zy_t (zy_t (zy_t (zy_t (zy_t (zy_t (zy_t zy_h)))))))))))))))))))))))))))))))) zy_n)) (zy_p (fun _ h => (zy_t (zy_l (zy_r h)))))))) (by decide +kernel) | exact goodIn_r _ [21, 17, 22, 68, 69, 70, 71] (by decide +kernel) (by decide +kernel)
set_option maxRecDepth 20000 in
theorem gX4_take_X10_wordsOf : GoodIn wsX4_take (wsV RX4 51 RX10 yX10_wordsOf wsX10_wordsOf) := by first | exact goodIn_app (goodIn_sub (show zy_S _ wsX4_take from (zy_c (zy_t (zy_l (zy_l (zy_l (zy_l (zy_l (zy_l (zy_l (zy_l (zy_l (zy_l (zy_t (zy_t (zy_t (zy_t (zy_t (zy_t (zy_t (zy_t (zy_t (zy_t (zy_t (zy_t (zy_t (zy_t (zy_t (zy_t (zy_t zy_h)))))))))))))))))))))))))))) (zy_c (zy_t (zy_l (zy_l (zy_l (zy_l (zy_l (zy_l (zy_l (zy_l (zy_l (zy_l (zy_t (zy_t (zy_t (zy_t (zy_t (zy_t (zy_t (zy_t (zy_t (zy_t (zy_t (zy_t (zy_t (zy_t (zy_t (zy_t (zy_t (zy_t zy_h))))))))))))))))))))))))))))) (zy_c (zy_t (zy_l (zy_l (zy_l (zy_l (zy_l (zy_l (zy_l (zy_l (zy_l (zy_l (zy_t (zy_t (zy_t (zy_t (zy_t (zy_t (zy_t (zy_t (zy_t (zy_t (zy_t (zy_t (zy_t (zy_t (zy_t (zy_t (zy_t (zy_t (zy_t zy_h)))))))))))))))))))))))))))))) (zy_c (zy_t (zy_l (zy_l (zy_l (zy_l (zy_l (zy_l (zy_l (zy_l (zy_l (zy_l (zy_t (zy_t (zy_t (zy_t (zy_t (zy_t (zy_t (zy_t (zy_t (zy_t (zy_t (zy_t (zy_t (zy_t zy_h))))))))))))))))))))))))) zy_n))))) (by decide +kernel)) ggX4_take_X10_wordsOf | exact goodIn_app (goodIn_of _ (by decide +kernel)) ggX4_take_X10_wordsOf
set_option maxRecDepth 20000 in
theorem ggX4_take_X10_remove : GoodIn wsX4_take wsX10_remove := by first | exact goodIn_sub (show zy_S _ wsX4_take from (zy_c (zy_t (zy_l (zy_l (zy_l (zy_l (zy_l (zy_l (zy_l (zy_l (zy_l (zy_r (zy_l (zy_t (zy_t (zy_t (zy_t (zy_t (zy_t (zy_t (zy_t (zy_t (zy_t (zy_t (zy_t (zy_t (zy_t (zy_t (zy_t zy_h)))))))))))))))))))))))))))) (zy_a (zy_c (zy_t (zy_l (zy_l (zy_l (zy_l (zy_l (zy_l (zy_l (zy_l (zy_l (zy_l (zy_t (zy_t (zy_t (zy_t (zy_t (zy_t (zy_t (zy_t (zy_t (zy_t (zy_t (zy_t (zy_t (zy_t (zy_t (zy_t zy_h))))))))))))))))))))))))))) (zy_c (zy_t (zy_l (zy_l (zy_l (zy_l (zy_l (zy_l (zy_l (zy_l (zy_l (zy_r (zy_l (zy_t (zy_t (zy_t (zy_t (zy_t (zy_t (zy_t (zy_t (zy_t (zy_t (zy_t (zy_t zy_h)))))))))))))))))))))))) (zy_c (zy_t (zy_l (zy_l (zy_l (zy_l (zy_l (zy_l (zy_l (zy_l (zy_l (zy_r (zy_l (zy_t (zy_t (zy_t (zy_t (zy_t (zy_t (zy_t (zy_t (zy_t (zy_t (zy_t (zy_t (zy_t (zy_t (zy_t (zy_t (zy_t zy_h))))))))))))))))))))))))))))) (zy_c (zy_t (zy_l (zy_l (zy_l (zy_l (zy_l (zy_l (zy_l (zy_l (zy_l (zy_r (zy_l (zy_t (zy_t (zy_t (zy_t (zy_t (zy_t (zy_t (zy_t (zy_t (zy_t (zy_t (zy_t (zy_t (zy_t (zy_t (zy_t (zy_t (zy_t zy_h)))))))))))))))))))))))))))))) (zy_c (zy_t (zy_l (zy_l (zy_l (zy_l (zy_l (zy_l (zy_l (zy_l (zy_l (zy_r (zy_l (zy_t (zy_t (zy_t (zy_t (zy_t (zy_t (zy_t (zy_t (zy_t (zy_t (zy_t (zy_t (zy_t (zy_t (zy_t (zy_t (zy_t (zy_t (zy_t zy_h))))))))))))))))))))))))))))))) (zy_c (zy_t (zy_l (zy_l (zy_l (zy_l (zy_l (zy_l (zy_l (zy_l (zy_l (zy_r (zy_l (zy_t (zy_t (zy_t (zy_t (zy_t (zy_t (zy_t (zy_t (zy_t (zy_t (zy_t (zy_t (zy_t (zy_t (zy_t (zy_t (zy_t (zy_t (zy_t (zy_t zy_h)))))))))))))))))))))))))))))))) (zy_c (zy_t (zy_l (zy_l (zy_l (zy_l (zy_l (zy_l (zy_l (zy_l (zy_l (zy_l (zy_t (zy_t (zy_t (zy_t (zy_t (zy_t (zy_t (zy_t (zy_t (zy_t (zy_t (zy_t (zy_t (zy_t (zy_t (zy_t (zy_t (zy_t (zy_t (zy_t (zy_t zy_h)))))))))))))))))))))))))))))))) zy_n))))))) (zy_p (fun _ h => (zy_t (zy_l (zy_r h)))))))) (by decide +kernel) | exact goodIn_r _ [41, 17, 37, 42, 43, 44, 45, 22, 68, 69, 70, 71] (by decide +kernel) (by decide +kernel)
set_option maxRecDepth 20000 in
theorem gX4_take_X10_remove : GoodIn wsX4_take (wsV RX4 54 RX10 yX10_remove wsX10_remove) := by first | exact goodIn_app (goodIn_sub (show zy_S _ wsX4_take from (zy_c (zy_t (zy_l (zy_l (zy_l (zy_l (zy_l (zy_l (zy_l (zy_l (zy_l (zy_r (zy_l (zy_t (zy_t (zy_t (zy_t (zy_t (zy_t (zy_t (zy_t (zy_t (zy_t (zy_t (zy_t (zy_t zy_h))))))))))))))))))))))))) (zy_c (zy_t (zy_l (zy_l (zy_l (zy_l (zy_l (zy_l (zy_l (zy_l (zy_l (zy_r (zy_l (zy_t (zy_t (zy_t (zy_t (zy_t (zy_t (zy_t (zy_t (zy_t (zy_t (zy_t (zy_t (zy_t (zy_t zy_h)))))))))))))))))))))))))) (zy_c (zy_t (zy_l (zy_l (zy_l (zy_l (zy_l (zy_l (zy_l (zy_l (zy_l (zy_r (zy_l (zy_t (zy_t (zy_t (zy_t (zy_t (zy_t (zy_t (zy_t (zy_t (zy_t (zy_t (zy_t (zy_t (zy_t (zy_t zy_h))))))))))))))))))))))))))) (zy_c (zy_t (zy_l (zy_l (zy_l (zy_l (zy_l (zy_l (zy_l (zy_l (zy_l (zy_l (zy_t (zy_t (zy_t (zy_t (zy_t (zy_t (zy_t (zy_t (zy_t (zy_t (zy_t (zy_t (zy_t (zy_t zy_h))))))))))))))))))))))))) zy_n))))) (by decide +kernel)) ggX4_take_X10_remove | exact goodIn_app (goodIn_of _ (by decide +kernel)) ggX4_take_X10_remove
set_option maxRecDepth 20000 in
theorem ggX4_take_X10_add : GoodIn wsX4_take wsX10_add := by first | exact goodIn_sub (show zy_S _ wsX4_take from (zy_c (zy_t (zy_l (zy_l (zy_l (zy_l (zy_l (zy_l (zy_l (zy_l (zy_l (zy_r (zy_r zy_h)))))))))))) (zy_a (zy_c (zy_t (zy_l (zy_l (zy_l (zy_l (zy_l (zy_l (zy_l (zy_l (zy_l (zy_l (zy_t (zy_t (zy_t (zy_t (zy_t (zy_t (zy_t (zy_t (zy_t (zy_t (zy_t (zy_t (zy_t (zy_t (zy_t (zy_t zy_h))))))))))))))))))))))))))) (zy_c (zy_t (zy_l (zy_l (zy_l (zy_l (zy_l (zy_l (zy_l (zy_l (zy_l (zy_r (zy_l (zy_t (zy_t (zy_t (zy_t (zy_t (zy_t (zy_t (zy_t (zy_t (zy_t (zy_t (zy_t zy_h)))))))))))))))))))))))) (zy_c (zy_t (zy_l (zy_l (zy_l (zy_l (zy_l (zy_l (zy_l (zy_l (zy_l (zy_l (zy_t (zy_t (zy_t (zy_t (zy_t (zy_t (zy_t (zy_t (zy_t (zy_t (zy_t (zy_t (zy_t (zy_t (zy_t (zy_t (zy_t (zy_t (zy_t (zy_t (zy_t zy_h)))))))))))))))))))))))))))))))) zy_n))) (zy_p (fun _ h => (zy_t (zy_l (zy_r h)))))))) (by decide +kernel) | exact goodIn_r _ [49, 17, 37, 22, 68, 69, 70, 71] (by decide +kernel) (by decide +kernel)
set_option maxRecDepth 20000 in
theorem gX4_take_X10_add : GoodIn wsX4_take (wsV RX4 34 RX10 yX10_add wsX10_add) := by first | exact goodIn_app (goodIn_sub (show zy_S _ wsX4_take from (zy_c (zy_t (zy_l (zy_l (zy_l (zy_l (zy_l (zy_l (zy_l (zy_l (zy_l (zy_r (zy_l (zy_t (zy_t (zy_t (zy_t (zy_t (zy_t (zy_t (zy_t (zy_t (zy_t (zy_t (zy_t (zy_t (zy_t (zy_t (zy_t (zy_t (zy_t (zy_t (zy_t (zy_t zy_h))))))))))))))))))))))))))))))))) (zy_c (zy_t (zy_l (zy_l (zy_l (zy_l (zy_l (zy_l (zy_l (zy_l (zy_l (zy_r (zy_l (zy_t (zy_t (zy_t (zy_t (zy_t (zy_t (zy_t (zy_t (zy_t (zy_t (zy_t (zy_t (zy_t (zy_t (zy_t (zy_t (zy_t (zy_t (zy_t (zy_t (zy_t (zy_t zy_h)))))))))))))))))))))))))))))))))) (zy_c (zy_t (zy_l (zy_l (zy_l (zy_l (zy_l (zy_l (zy_l (zy_l (zy_l (zy_r (zy_l (zy_t (zy_t (zy_t (zy_t (zy_t (zy_t (zy_t (zy_t (zy_t (zy_t (zy_t (zy_t (zy_t (zy_t (zy_t (zy_t (zy_t (zy_t (zy_t (zy_t (zy_t (zy_t (zy_t zy_h))))))))))))))))))))))))))))))))))) (zy_c (zy_t (zy_l (zy_l (zy_l (zy_l (zy_l (zy_l (zy_l (zy_l (zy_l (zy_l (zy_t (zy_t (zy_t (zy_t (zy_t (zy_t (zy_t (zy_t (zy_t (zy_t (zy_t (zy_t (zy_t (zy_t zy_h))))))))))))))))))))))))) zy_n))))) (by decide +kernel)) ggX4_take_X10_add | exact goodIn_app (goodIn_of _ (by decide +kernel)) ggX4_take_X10_add
theorem dX4_take_0 : decode cX4_take 0 = .ok (.aload_n 0, 1) := by decide +kernel
theorem dX4_take_1 : decode cX4_take 1 = .ok (.iload_n 1, 1) := by decide +kernel
theorem dX4_take_2 : decode cX4_take 2 = .ok (.invokevirtual 38, 3) := by decide +kernel
theorem dX4_take_5 : decode cX4_take 5 = .ok (.istore_n 2, 1) := by decide +kernel
theorem dX4_take_6 : decode cX4_take 6 = .ok (.iload_n 2, 1) := by decide +kernel
theorem dX4_take_7 : decode cX4_take 7 = .ok (.iconst (-1), 1) := by decide +kernel
theorem dX4_take_8 : decode cX4_take 8 = .ok (.if_icmp .ne 12, 3) := by decide +kernel
theorem dX4_take_11 : decode cX4_take 11 = .ok (.aload_n 0, 1) := by decide +kernel
theorem dX4_take_12 : decode cX4_take 12 = .ok (.iload_n 1, 1) := by decide +kernel
theorem dX4_take_13 : decode cX4_take 13 = .ok (.invokestatic 42, 3) := by decide +kernel
theorem dX4_take_16 : decode cX4_take 16 = .ok (.invokevirtual 45, 3) := by decide +kernel
theorem dX4_take_19 : decode cX4_take 19 = .ok (.istore_n 2, 1) := by decide +kernel
theorem dX4_take_20 : decode cX4_take 20 = .ok (.iload_n 2, 1) := by decide +kernel
theorem dX4_take_21 : decode cX4_take 21 = .ok (.iconst (-1), 1) := by decide +kernel
theorem dX4_take_22 : decode cX4_take 22 = .ok (.if_icmp .ne 5, 3) := by decide +kernel
theorem dX4_take_25 : decode cX4_take 25 = .ok (.iconst (-1), 1) := by decide +kernel
theorem dX4_take_26 : decode cX4_take 26 = .ok (.ireturn, 1) := by decide +kernel
theorem dX4_take_27 : decode cX4_take 27 = .ok (.aload_n 0, 1) := by decide +kernel
theorem dX4_take_28 : decode cX4_take 28 = .ok (.getfield 14, 3) := by decide +kernel
theorem dX4_take_31 : decode cX4_take 31 = .ok (.iload_n 2, 1) := by decide +kernel
theorem dX4_take_32 : decode cX4_take 32 = .ok (.invokevirtual 48, 3) := by decide +kernel
theorem dX4_take_35 : decode cX4_take 35 = .ok (.istore_n 3, 1) := by decide +kernel
theorem dX4_take_36 : decode cX4_take 36 = .ok (.aload_n 0, 1) := by decide +kernel
theorem dX4_take_37 : decode cX4_take 37 = .ok (.getfield 14, 3) := by decide +kernel
theorem dX4_take_40 : decode cX4_take 40 = .ok (.iload_n 2, 1) := by decide +kernel
theorem dX4_take_41 : decode cX4_take 41 = .ok (.invokevirtual 51, 3) := by decide +kernel
theorem dX4_take_44 : decode cX4_take 44 = .ok (.iload_n 1, 1) := by decide +kernel
theorem dX4_take_45 : decode cX4_take 45 = .ok (.isub, 1) := by decide +kernel
theorem dX4_take_46 : decode cX4_take 46 = .ok (.istore 4, 2) := by decide +kernel
theorem dX4_take_48 : decode cX4_take 48 = .ok (.aload_n 0, 1) := by decide +kernel
theorem dX4_take_49 : decode cX4_take 49 = .ok (.getfield 14, 3) := by decide +kernel
theorem dX4_take_52 : decode cX4_take 52 = .ok (.iload_n 2, 1) := by decide +kernel
theorem dX4_take_53 : decode cX4_take 53 = .ok (.invokevirtual 54, 3) := by decide +kernel
theorem dX4_take_56 : decode cX4_take 56 = .ok (.iload 4, 2) := by decide +kernel
theorem dX4_take_58 : decode cX4_take 58 = .ok (.ifCond .le 15, 3) := by decide +kernel
theorem dX4_take_61 : decode cX4_take 61 = .ok (.aload_n 0, 1) := by decide +kernel
theorem dX4_take_62 : decode cX4_take 62 = .ok (.getfield 14, 3) := by decide +kernel
theorem dX4_take_65 : decode cX4_take 65 = .ok (.iload_n 3, 1) := by decide +kernel
theorem dX4_take_66 : decode cX4_take 66 = .ok (.iload_n 1, 1) := by decide +kernel
theorem dX4_take_67 : decode cX4_take 67 = .ok (.iadd, 1) := by decide +kernel
theorem dX4_take_68 : decode cX4_take 68 = .ok (.iload 4, 2) := by decide +kernel
theorem dX4_take_70 : decode cX4_take 70 = .ok (.invokevirtual 34, 3) := by decide +kernel
theorem dX4_take_73 : decode cX4_take 73 = .ok (.iload_n 3, 1) := by decide +kernel
theorem dX4_take_74 : decode cX4_take 74 = .ok (.ireturn, 1) := by decide +kernel
set_option maxRecDepth 20000 in
theorem ggX4_findInListOf_X4_listOf : GoodIn wsX4_findInListOf wsX4_listOf := by first | exact goodIn_sub (show zy_S _ wsX4_findInListOf from (zy_c (zy_t (zy_l (zy_l (zy_l (zy_l (zy_l (zy_l (zy_l (zy_l (zy_l (zy_t (zy_t (zy_t (zy_t (zy_t (zy_t zy_h)))))))))))))))) zy_n)) (by decide +kernel) | exact goodIn_r _ [7] (by decide +kernel) (by decide +kernel)
set_option maxRecDepth 20000 in
theorem gX4_findInListOf_X4_listOf : GoodIn wsX4_findInListOf (va_wsS RX4 42 yX4_listOf wsX4_listOf) := by first | exact goodIn_app (goodIn_sub (show zy_S _ wsX4_findInListOf from (zy_c (zy_t (zy_l (zy_l (zy_l (zy_l (zy_l (zy_l (zy_l (zy_l (zy_l (zy_t (zy_t (zy_t zy_h))))))))))))) (zy_c (zy_t (zy_l (zy_l (zy_l (zy_l (zy_l (zy_l (zy_l (zy_l (zy_l (zy_t (zy_t (zy_t (zy_t zy_h)))))))))))))) (zy_c (zy_t (zy_l (zy_l (zy_l (zy_l (zy_l (zy_l (zy_l (zy_l (zy_l (zy_t (zy_t (zy_t (zy_t (zy_t zy_h))))))))))))))) zy_n)))) (by decide +kernel)) ggX4_findInListOf_X4_listOf | exact goodIn_app (goodIn_of _ (by decide +kernel)) ggX4_findInListOf_X4_listOf
set_option maxRecDepth 20000 in
theorem ggX4_findInListOf_X10_size : GoodIn wsX4_findInListOf wsX10_size := by first | exact goodIn_sub (show zy_S _ wsX4_findInListOf from (zy_c (zy_t (zy_l (zy_l (zy_l (zy_l (zy_l (zy_l (zy_l (zy_l (zy_l (zy_t (zy_t (zy_t (zy_t (zy_t (zy_t (zy_t (zy_t (zy_t (zy_t (zy_t zy_h))))))))))))))))))))) (zy_a (zy_c (zy_t (zy_l (zy_l (zy_l (zy_l (zy_l (zy_l (zy_l (zy_l (zy_l (zy_t (zy_t (zy_t (zy_t (zy_t (zy_t (zy_t (zy_t (zy_t (zy_t (zy_t (zy_t zy_h)))))))))))))))))))))) zy_n) (zy_p (fun _ h => (zy_t (zy_l (zy_r h)))))))) (by decide +kernel) | exact goodIn_r _ [12, 13, 43, 44, 45, 46] (by decide +kernel) (by decide +kernel)
set_option maxRecDepth 20000 in
theorem gX4_findInListOf_X10_size : GoodIn wsX4_findInListOf (wsV RX4 57 RX10 yX10_size wsX10_size) := by first | exact goodIn_app (goodIn_sub (show zy_S _ wsX4_findInListOf from (zy_c (zy_t (zy_l (zy_l (zy_l (zy_l (zy_l (zy_l (zy_l (zy_l (zy_l (zy_t (zy_t (zy_t (zy_t (zy_t (zy_t (zy_t zy_h))))))))))))))))) (zy_c (zy_t (zy_l (zy_l (zy_l (zy_l (zy_l (zy_l (zy_l (zy_l (zy_l (zy_t (zy_t (zy_t (zy_t (zy_t (zy_t (zy_t (zy_t zy_h)))))))))))))))))) (zy_c (zy_t (zy_l (zy_l (zy_l (zy_l (zy_l (zy_l (zy_l (zy_l (zy_l (zy_t (zy_t (zy_t (zy_t (zy_t (zy_t (zy_t (zy_t (zy_t zy_h))))))))))))))))))) (zy_c (zy_t (zy_l (zy_l (zy_l (zy_l (zy_l (zy_l (zy_l (zy_l (zy_l (zy_t (zy_t (zy_t (zy_t (zy_t (zy_t (zy_t (zy_t (zy_t (zy_t zy_h)))))))))))))))))))) zy_n))))) (by decide +kernel)) ggX4_findInListOf_X10_size | exact goodIn_app (goodIn_of _ (by decide +kernel)) ggX4_findInListOf_X10_size
set_option maxRecDepth 20000 in
theorem ggX4_findInListOf_X10_wordsOf : GoodIn wsX4_findInListOf wsX10_wordsOf := by first | exact goodIn_sub (show zy_S _ wsX4_findInListOf from (zy_c (zy_t (zy_l (zy_l (zy_l (zy_l (zy_l (zy_l (zy_l (zy_l (zy_l (zy_t (zy_t (zy_t (zy_t (zy_t (zy_t (zy_t (zy_t (zy_t (zy_t (zy_t (zy_t (zy_t (zy_t (zy_t (zy_t zy_h)))))))))))))))))))))))))) (zy_a (zy_c (zy_t (zy_l (zy_l (zy_l (zy_l (zy_l (zy_l (zy_l (zy_l (zy_l (zy_t (zy_t (zy_t (zy_t (zy_t (zy_t (zy_t (zy_t (zy_t (zy_t (zy_t (zy_t zy_h)))))))))))))))))))))) (zy_c (zy_t (zy_l (zy_l (zy_l (zy_l (zy_l (zy_l (zy_l (zy_l (zy_l (zy_t (zy_t (zy_t (zy_t (zy_t (zy_t (zy_t (zy_t (zy_t (zy_t (zy_t (zy_t (zy_t (zy_t (zy_t (zy_t (zy_t zy_h))))))))))))))))))))))))))) zy_n)) (zy_p (fun _ h => (zy_t (zy_l (zy_r h)))))))) (by decide +kernel) | exact goodIn_r _ [17, 13, 18, 43, 44, 45, 46] (by decide +kernel) (by decide +kernel)
set_option maxRecDepth 20000 in
theorem gX4_findInListOf_X10_wordsOf : GoodIn wsX4_findInListOf (wsV RX4 51 RX10 yX10_wordsOf wsX10_wordsOf) := by first | exact goodIn_app (goodIn_sub (show zy_S _ wsX4_findInListOf from (zy_c (zy_t (zy_l (zy_l (zy_l (zy_l (zy_l (zy_l (zy_l (zy_l (zy_l (zy_t (zy_t (zy_t (zy_t (zy_t (zy_t (zy_t (zy_t (zy_t (zy_t (zy_t (zy_t (zy_t zy_h))))))))))))))))))))))) (zy_c (zy_t (zy_l (zy_l (zy_l (zy_l (zy_l (zy_l (zy_l (zy_l (zy_l (zy_t (zy_t (zy_t (zy_t (zy_t (zy_t (zy_t (zy_t (zy_t (zy_t (zy_t (zy_t (zy_t (zy_t zy_h)))))))))))))))))))))))) (zy_c (zy_t (zy_l (zy_l (zy_l (zy_l (zy_l (zy_l (zy_l (zy_l (zy_l (zy_t (zy_t (zy_t (zy_t (zy_t (zy_t (zy_t (zy_t (zy_t (zy_t (zy_t (zy_t (zy_t (zy_t (zy_t zy_h))))))))))))))))))))))))) (zy_c (zy_t (zy_l (zy_l (zy_l (zy_l (zy_l (zy_l (zy_l (zy_l (zy_l (zy_t (zy_t (zy_t (zy_t (zy_t (zy_t (zy_t (zy_t (zy_t (zy_t zy_h)))))))))))))))))))) zy_n))))) (by decide +kernel)) ggX4_findInListOf_X10_wordsOf | exact goodIn_app (goodIn_of _ (by decide +kernel)) ggX4_findInListOf_X10_wordsOf
set_option maxRecDepth 20000 in
theorem ggX4_findInListOf_X7_addLooked : GoodIn wsX4_findInListOf wsX7_addLooked := by first | exact goodIn_sub (show zy_S _ wsX4_findInListOf from (zy_c (zy_t (zy_l (zy_l (zy_l (zy_l (zy_l (zy_l (zy_l (zy_l (zy_l (zy_t (zy_t (zy_t (zy_t (zy_t (zy_t (zy_t (zy_t (zy_t (zy_t (zy_t (zy_t (zy_t (zy_t (zy_t (zy_t (zy_t (zy_t (zy_t (zy_t (zy_t (zy_t zy_h)))))))))))))))))))))))))))))))) (zy_a (zy_c (zy_t (zy_l (zy_l (zy_l (zy_l (zy_l (zy_l (zy_l (zy_l (zy_l (zy_t (zy_t (zy_t (zy_t (zy_t (zy_t (zy_t (zy_t (zy_t (zy_t (zy_t (zy_t (zy_t (zy_t (zy_t (zy_t (zy_t (zy_t (zy_t (zy_t (zy_t (zy_t (zy_t zy_h))))))))))))))))))))))))))))))))) zy_n) (zy_p (fun _ h => (zy_t (zy_r h))))))) (by decide +kernel) | exact goodIn_r _ [23, 24, 47, 48, 49, 50, 51, 52, 53, 54, 55, 56] (by decide +kernel) (by decide +kernel)
set_option maxRecDepth 20000 in
theorem gX4_findInListOf_X7_addLooked : GoodIn wsX4_findInListOf (wsV RX4 60 RX7 yX7_addLooked wsX7_addLooked) := by first | exact goodIn_app (goodIn_sub (show zy_S _ wsX4_findInListOf from (zy_c (zy_t (zy_l (zy_l (zy_l (zy_l (zy_l (zy_l (zy_l (zy_l (zy_l (zy_t (zy_t (zy_t (zy_t (zy_t (zy_t (zy_t (zy_t (zy_t (zy_t (zy_t (zy_t (zy_t (zy_t (zy_t (zy_t (zy_t (zy_t zy_h)))))))))))))))))))))))))))) (zy_c (zy_t (zy_l (zy_l (zy_l (zy_l (zy_l (zy_l (zy_l (zy_l (zy_l (zy_t (zy_t (zy_t (zy_t (zy_t (zy_t (zy_t (zy_t (zy_t (zy_t (zy_t (zy_t (zy_t (zy_t (zy_t (zy_t (zy_t (zy_t (zy_t zy_h))))))))))))))))))))))))))))) (zy_c (zy_t (zy_l (zy_l (zy_l (zy_l (zy_l (zy_l (zy_l (zy_l (zy_l (zy_t (zy_t (zy_t (zy_t (zy_t (zy_t (zy_t (zy_t (zy_t (zy_t (zy_t (zy_t (zy_t (zy_t (zy_t (zy_t (zy_t (zy_t (zy_t (zy_t zy_h)))))))))))))))))))))))))))))) (zy_c (zy_t (zy_l (zy_l (zy_l (zy_l (zy_l (zy_l (zy_l (zy_l (zy_l (zy_t (zy_t (zy_t (zy_t (zy_t (zy_t (zy_t (zy_t (zy_t (zy_t (zy_t (zy_t (zy_t (zy_t (zy_t (zy_t (zy_t (zy_t (zy_t (zy_t (zy_t zy_h))))))))))))))))))))))))))))))) zy_n))))) (by decide +kernel)) ggX4_findInListOf_X7_addLooked | exact goodIn_app (goodIn_of _ (by decide +kernel)) ggX4_findInListOf_X7_addLooked
theorem dX4_findInListOf_0 : decode cX4_findInListOf 0 = .ok (.iload_n 1, 1) := by decide +kernel
theorem dX4_findInListOf_1 : decode cX4_findInListOf 1 = .ok (.invokestatic 42, 3) := by decide +kernel
theorem dX4_findInListOf_4 : decode cX4_findInListOf 4 = .ok (.istore_n 2, 1) := by decide +kernel
theorem dX4_findInListOf_5 : decode cX4_findInListOf 5 = .ok (.aload_n 0, 1) := by decide +kernel
theorem dX4_findInListOf_6 : decode cX4_findInListOf 6 = .ok (.getfield 14, 3) := by decide +kernel
theorem dX4_findInListOf_9 : decode cX4_findInListOf 9 = .ok (.invokevirtual 57, 3) := by decide +kernel
theorem dX4_findInListOf_12 : decode cX4_findInListOf 12 = .ok (.iconst 1, 1) := by decide +kernel
theorem dX4_findInListOf_13 : decode cX4_findInListOf 13 = .ok (.isub, 1) := by decide +kernel
theorem dX4_findInListOf_14 : decode cX4_findInListOf 14 = .ok (.istore_n 3, 1) := by decide +kernel
theorem dX4_findInListOf_15 : decode cX4_findInListOf 15 = .ok (.iload_n 3, 1) := by decide +kernel
theorem dX4_findInListOf_16 : decode cX4_findInListOf 16 = .ok (.ifCond .lt 46, 3) := by decide +kernel
theorem dX4_findInListOf_19 : decode cX4_findInListOf 19 = .ok (.aload_n 0, 1) := by decide +kernel
theorem dX4_findInListOf_20 : decode cX4_findInListOf 20 = .ok (.getfield 14, 3) := by decide +kernel
theorem dX4_findInListOf_23 : decode cX4_findInListOf 23 = .ok (.iload_n 3, 1) := by decide +kernel
theorem dX4_findInListOf_24 : decode cX4_findInListOf 24 = .ok (.invokevirtual 51, 3) := by decide +kernel
theorem dX4_findInListOf_27 : decode cX4_findInListOf 27 = .ok (.invokestatic 42, 3) := by decide +kernel
theorem dX4_findInListOf_30 : decode cX4_findInListOf 30 = .ok (.iload_n 2, 1) := by decide +kernel
theorem dX4_findInListOf_31 : decode cX4_findInListOf 31 = .ok (.if_icmp .ne 25, 3) := by decide +kernel
theorem dX4_findInListOf_34 : decode cX4_findInListOf 34 = .ok (.aload_n 0, 1) := by decide +kernel
theorem dX4_findInListOf_35 : decode cX4_findInListOf 35 = .ok (.getfield 24, 3) := by decide +kernel
theorem dX4_findInListOf_38 : decode cX4_findInListOf 38 = .ok (.iconst 1, 1) := by decide +kernel
theorem dX4_findInListOf_39 : decode cX4_findInListOf 39 = .ok (.invokevirtual 60, 3) := by decide +kernel
theorem dX4_findInListOf_42 : decode cX4_findInListOf 42 = .ok (.aload_n 0, 1) := by decide +kernel
theorem dX4_findInListOf_43 : decode cX4_findInListOf 43 = .ok (.getfield 14, 3) := by decide +kernel
theorem dX4_findInListOf_46 : decode cX4_findInListOf 46 = .ok (.iload_n 3, 1) := by decide +kernel
theorem dX4_findInListOf_47 : decode cX4_findInListOf 47 = .ok (.invokevirtual 51, 3) := by decide +kernel
theorem dX4_findInListOf_50 : decode cX4_findInListOf 50 = .ok (.iload_n 1, 1) := by decide +kernel
theorem dX4_findInListOf_51 : decode cX4_findInListOf 51 = .ok (.if_icmp .lt 5, 3) := by decide +kernel
theorem dX4_findInListOf_54 : decode cX4_findInListOf 54 = .ok (.iload_n 3, 1) := by decide +kernel
theorem dX4_findInListOf_55 : decode cX4_findInListOf 55 = .ok (.ireturn, 1) := by decide +kernel
theorem dX4_findInListOf_56 : decode cX4_findInListOf 56 = .ok (.iinc 3 (-1), 3) := by decide +kernel
theorem dX4_findInListOf_59 : decode cX4_findInListOf 59 = .ok (.goto (-44), 3) := by decide +kernel
theorem dX4_findInListOf_62 : decode cX4_findInListOf 62 = .ok (.iconst (-1), 1) := by decide +kernel
theorem dX4_findInListOf_63 : decode cX4_findInListOf 63 = .ok (.ireturn, 1) := by decide +kernel
set_option maxRecDepth 20000 in
theorem ggX4_firstOfLaterList_X10_size : GoodIn wsX4_firstOfLaterList wsX10_size := by first | exact goodIn_sub (show zy_S _ wsX4_firstOfLaterList from (zy_c (zy_t (zy_l (zy_l (zy_t (zy_t (zy_t (zy_t (zy_t zy_h)))))))) (zy_a (zy_c (zy_t (zy_l (zy_l (zy_t (zy_t (zy_t (zy_t (zy_t (zy_t zy_h))))))))) zy_n) (zy_p (fun _ h => (zy_t (zy_r h))))))) (by decide +kernel) | exact goodIn_r _ [6, 7, 19, 20, 21, 22] (by decide +kernel) (by decide +kernel)
set_option maxRecDepth 20000 in
theorem gX4_firstOfLaterList_X10_size : GoodIn wsX4_firstOfLaterList (wsV RX4 57 RX10 yX10_size wsX10_size) := by first | exact goodIn_app (goodIn_sub (show zy_S _ wsX4_firstOfLaterList from (zy_c (zy_t (zy_l (zy_l (zy_t zy_h)))) (zy_c (zy_t (zy_l (zy_l (zy_t (zy_t zy_h))))) (zy_c (zy_t (zy_l (zy_l (zy_t (zy_t (zy_t zy_h)))))) (zy_c (zy_t (zy_l (zy_l (zy_t (zy_t (zy_t (zy_t zy_h))))))) zy_n))))) (by decide +kernel)) ggX4_firstOfLaterList_X10_size | exact goodIn_app (goodIn_of _ (by decide +kernel)) ggX4_firstOfLaterList_X10_size
set_option maxRecDepth 20000 in
theorem ggX4_firstOfLaterList_X10_wordsOf : GoodIn wsX4_firstOfLaterList wsX10_wordsOf := by first | exact goodIn_sub (show zy_S _ wsX4_firstOfLaterList from (zy_c (zy_t (zy_l (zy_l (zy_t (zy_t (zy_t (zy_t (zy_t (zy_t (zy_t (zy_t (zy_t (zy_t zy_h))))))))))))) (zy_a (zy_c (zy_t (zy_l (zy_l (zy_t (zy_t (zy_t (zy_t (zy_t (zy_t zy_h))))))))) (zy_c (zy_t (zy_l (zy_l (zy_t (zy_t (zy_t (zy_t (zy_t (zy_t (zy_t (zy_t (zy_t (zy_t (zy_t zy_h)))))))))))))) zy_n)) (zy_p (fun _ h => (zy_t (zy_r h))))))) (by decide +kernel) | exact goodIn_r _ [11, 7, 12, 19, 20, 21, 22] (by decide +kernel) (by decide +kernel)
set_option maxRecDepth 20000 in
theorem gX4_firstOfLaterList_X10_wordsOf : GoodIn wsX4_firstOfLaterList (wsV RX4 51 RX10 yX10_wordsOf wsX10_wordsOf) := by first | exact goodIn_app (goodIn_sub (show zy_S _ wsX4_firstOfLaterList from (zy_c (zy_t (zy_l (zy_l (zy_t (zy_t (zy_t (zy_t (zy_t (zy_t (zy_t zy_h)))))))))) (zy_c (zy_t (zy_l (zy_l (zy_t (zy_t (zy_t (zy_t (zy_t (zy_t (zy_t (zy_t zy_h))))))))))) (zy_c (zy_t (zy_l (zy_l (zy_t (zy_t (zy_t (zy_t (zy_t (zy_t (zy_t (zy_t (zy_t zy_h)))))))))))) (zy_c (zy_t (zy_l (zy_l (zy_t (zy_t (zy_t (zy_t zy_h))))))) zy_n))))) (by decide +kernel)) ggX4_firstOfLaterList_X10_wordsOf | exact goodIn_app (goodIn_of _ (by decide +kernel)) ggX4_firstOfLaterList_X10_wordsOf
set_option maxRecDepth 20000 in
theorem ggX4_firstOfLaterList_X4_listOf : GoodIn wsX4_firstOfLaterList wsX4_listOf := by first | exact goodIn_sub (show zy_S _ wsX4_firstOfLaterList from (zy_c (zy_t (zy_l (zy_l (zy_t (zy_t (zy_t (zy_t (zy_t (zy_t (zy_t (zy_t (zy_t (zy_t (zy_t (zy_t (zy_t (zy_t (zy_t zy_h)))))))))))))))))) zy_n)) (by decide +kernel) | exact goodIn_r _ [16] (by decide +kernel) (by decide +kernel)
set_option maxRecDepth 20000 in
theorem gX4_firstOfLaterList_X4_listOf : GoodIn wsX4_firstOfLaterList (va_wsS RX4 42 yX4_listOf wsX4_listOf) := by first | exact goodIn_app (goodIn_sub (show zy_S _ wsX4_firstOfLaterList from (zy_c (zy_t (zy_l (zy_l (zy_t (zy_t (zy_t (zy_t (zy_t (zy_t (zy_t (zy_t (zy_t (zy_t (zy_t (zy_t zy_h))))))))))))))) (zy_c (zy_t (zy_l (zy_l (zy_t (zy_t (zy_t (zy_t (zy_t (zy_t (zy_t (zy_t (zy_t (zy_t (zy_t (zy_t (zy_t zy_h)))))))))))))))) (zy_c (zy_t (zy_l (zy_l (zy_t (zy_t (zy_t (zy_t (zy_t (zy_t (zy_t (zy_t (zy_t (zy_t (zy_t (zy_t (zy_t (zy_t zy_h))))))))))))))))) zy_n)))) (by decide +kernel)) ggX4_firstOfLaterList_X4_listOf | exact goodIn_app (goodIn_of _ (by decide +kernel)) ggX4_firstOfLaterList_X4_listOf
theorem dX4_firstOfLaterList_0 : decode cX4_firstOfLaterList 0 = .ok (.iconst (-1), 1) := by decide +kernel
theorem dX4_firstOfLaterList_1 : decode cX4_firstOfLaterList 1 = .ok (.istore_n 2, 1) := by decide +kernel
theorem dX4_firstOfLaterList_2 : decode cX4_firstOfLaterList 2 = .ok (.bipush 44, 2) := by decide +kernel
theorem dX4_firstOfLaterList_4 : decode cX4_firstOfLaterList 4 = .ok (.istore_n 3, 1) := by decide +kernel
theorem dX4_firstOfLaterList_5 : decode cX4_firstOfLaterList 5 = .ok (.aload_n 0, 1) := by decide +kernel
theorem dX4_firstOfLaterList_6 : decode cX4_firstOfLaterList 6 = .ok (.getfield 14, 3) := by decide +kernel
theorem dX4_firstOfLaterList_9 : decode cX4_firstOfLaterList 9 = .ok (.invokevirtual 57, 3) := by decide +kernel
theorem dX4_firstOfLaterList_12 : decode cX4_firstOfLaterList 12 = .ok (.iconst 1, 1) := by decide +kernel
theorem dX4_firstOfLaterList_13 : decode cX4_firstOfLaterList 13 = .ok (.isub, 1) := by decide +kernel
theorem dX4_firstOfLaterList_14 : decode cX4_firstOfLaterList 14 = .ok (.istore 4, 2) := by decide +kernel
theorem dX4_firstOfLaterList_16 : decode cX4_firstOfLaterList 16 = .ok (.iload 4, 2) := by decide +kernel
theorem dX4_firstOfLaterList_18 : decode cX4_firstOfLaterList 18 = .ok (.ifCond .lt 41, 3) := by decide +kernel
theorem dX4_firstOfLaterList_21 : decode cX4_firstOfLaterList 21 = .ok (.aload_n 0, 1) := by decide +kernel
theorem dX4_firstOfLaterList_22 : decode cX4_firstOfLaterList 22 = .ok (.getfield 14, 3) := by decide +kernel
theorem dX4_firstOfLaterList_25 : decode cX4_firstOfLaterList 25 = .ok (.iload 4, 2) := by decide +kernel
theorem dX4_firstOfLaterList_27 : decode cX4_firstOfLaterList 27 = .ok (.invokevirtual 51, 3) := by decide +kernel
theorem dX4_firstOfLaterList_30 : decode cX4_firstOfLaterList 30 = .ok (.invokestatic 42, 3) := by decide +kernel
theorem dX4_firstOfLaterList_33 : decode cX4_firstOfLaterList 33 = .ok (.istore 5, 2) := by decide +kernel
theorem dX4_firstOfLaterList_35 : decode cX4_firstOfLaterList 35 = .ok (.iload 5, 2) := by decide +kernel
theorem dX4_firstOfLaterList_37 : decode cX4_firstOfLaterList 37 = .ok (.iload_n 1, 1) := by decide +kernel
theorem dX4_firstOfLaterList_38 : decode cX4_firstOfLaterList 38 = .ok (.if_icmp .le 15, 3) := by decide +kernel
theorem dX4_firstOfLaterList_41 : decode cX4_firstOfLaterList 41 = .ok (.iload 5, 2) := by decide +kernel
theorem dX4_firstOfLaterList_43 : decode cX4_firstOfLaterList 43 = .ok (.iload_n 3, 1) := by decide +kernel
theorem dX4_firstOfLaterList_44 : decode cX4_firstOfLaterList 44 = .ok (.if_icmp .ge 9, 3) := by decide +kernel
theorem dX4_firstOfLaterList_47 : decode cX4_firstOfLaterList 47 = .ok (.iload 4, 2) := by decide +kernel
theorem dX4_firstOfLaterList_49 : decode cX4_firstOfLaterList 49 = .ok (.istore_n 2, 1) := by decide +kernel
theorem dX4_firstOfLaterList_50 : decode cX4_firstOfLaterList 50 = .ok (.iload 5, 2) := by decide +kernel
theorem dX4_firstOfLaterList_52 : decode cX4_firstOfLaterList 52 = .ok (.istore_n 3, 1) := by decide +kernel
theorem dX4_firstOfLaterList_53 : decode cX4_firstOfLaterList 53 = .ok (.iinc 4 (-1), 3) := by decide +kernel
theorem dX4_firstOfLaterList_56 : decode cX4_firstOfLaterList 56 = .ok (.goto (-40), 3) := by decide +kernel
theorem dX4_firstOfLaterList_59 : decode cX4_firstOfLaterList 59 = .ok (.iload_n 2, 1) := by decide +kernel
theorem dX4_firstOfLaterList_60 : decode cX4_firstOfLaterList 60 = .ok (.ireturn, 1) := by decide +kernel
set_option maxRecDepth 20000 in
theorem ggX4_takeBack_X10_size : GoodIn wsX4_takeBack wsX10_size := by first | exact goodIn_sub (show zy_S _ wsX4_takeBack from (zy_c (zy_t (zy_l (zy_l (zy_l (zy_t (zy_t (zy_t (zy_t (zy_t zy_h))))))))) (zy_a (zy_c (zy_t (zy_l (zy_l (zy_l (zy_t (zy_t (zy_t (zy_t (zy_t (zy_t zy_h)))))))))) zy_n) (zy_p (fun _ h => (zy_t (zy_r h))))))) (by decide +kernel) | exact goodIn_r _ [6, 7, 32, 33, 34, 35] (by decide +kernel) (by decide +kernel)
set_option maxRecDepth 20000 in
theorem gX4_takeBack_X10_size : GoodIn wsX4_takeBack (wsV RX4 57 RX10 yX10_size wsX10_size) := by first | exact goodIn_app (goodIn_sub (show zy_S _ wsX4_takeBack from (zy_c (zy_t (zy_l (zy_l (zy_l (zy_t zy_h))))) (zy_c (zy_t (zy_l (zy_l (zy_l (zy_t (zy_t zy_h)))))) (zy_c (zy_t (zy_l (zy_l (zy_l (zy_t (zy_t (zy_t zy_h))))))) (zy_c (zy_t (zy_l (zy_l (zy_l (zy_t (zy_t (zy_t (zy_t zy_h)))))))) zy_n))))) (by decide +kernel)) ggX4_takeBack_X10_size | exact goodIn_app (goodIn_of _ (by decide +kernel)) ggX4_takeBack_X10_size
set_option maxRecDepth 20000 in
theorem ggX4_takeBack_X10_endOf : GoodIn wsX4_takeBack wsX10_endOf := by first | exact goodIn_sub (show zy_S _ wsX4_takeBack from (zy_c (zy_t (zy_l (zy_l (zy_l (zy_t (zy_t (zy_t (zy_t (zy_t (zy_t (zy_t (zy_t (zy_t (zy_t zy_h)))))))))))))) (zy_a (zy_c (zy_t (zy_l (zy_l (zy_l (zy_t (zy_t (zy_t (zy_t (zy_t (zy_t zy_h)))))))))) (zy_c (zy_t (zy_l (zy_l (zy_l (zy_t (zy_t (zy_t (zy_t (zy_t (zy_t (zy_t (zy_t (zy_t (zy_t (zy_t zy_h))))))))))))))) (zy_c (zy_t (zy_l (zy_l (zy_l (zy_t (zy_t (zy_t (zy_t (zy_t (zy_t (zy_t (zy_t (zy_t (zy_t (zy_t (zy_t zy_h)))))))))))))))) zy_n))) (zy_p (fun _ h => (zy_t (zy_r h))))))) (by decide +kernel) | exact goodIn_r _ [11, 7, 12, 13, 32, 33, 34, 35] (by decide +kernel) (by decide +kernel)
set_option maxRecDepth 20000 in
theorem gX4_takeBack_X10_endOf : GoodIn wsX4_takeBack (wsV RX4 63 RX10 yX10_endOf wsX10_endOf) := by first | exact goodIn_app (goodIn_sub (show zy_S _ wsX4_takeBack from (zy_c (zy_t (zy_l (zy_l (zy_l (zy_t (zy_t (zy_t (zy_t (zy_t (zy_t (zy_t zy_h))))))))))) (zy_c (zy_t (zy_l (zy_l (zy_l (zy_t (zy_t (zy_t (zy_t (zy_t (zy_t (zy_t (zy_t zy_h)))))))))))) (zy_c (zy_t (zy_l (zy_l (zy_l (zy_t (zy_t (zy_t (zy_t (zy_t (zy_t (zy_t (zy_t (zy_t zy_h))))))))))))) (zy_c (zy_t (zy_l (zy_l (zy_l (zy_t (zy_t (zy_t (zy_t zy_h)))))))) zy_n))))) (by decide +kernel)) ggX4_takeBack_X10_endOf | exact goodIn_app (goodIn_of _ (by decide +kernel)) ggX4_takeBack_X10_endOf
set_option maxRecDepth 20000 in
theorem ggX4_takeBack_X10_placeOf : GoodIn wsX4_takeBack wsX10_placeOf := by first | exact goodIn_sub (show zy_S _ wsX4_takeBack from (zy_c (zy_t (zy_l (zy_l (zy_l (zy_t (zy_t (zy_t (zy_t (zy_t (zy_t (zy_t (zy_t (zy_t (zy_t (zy_t (zy_t (zy_t (zy_t (zy_t (zy_t zy_h)))))))))))))))))))) (zy_a (zy_c (zy_t (zy_l (zy_l (zy_l (zy_t (zy_t (zy_t (zy_t (zy_t (zy_t zy_h)))))))))) (zy_c (zy_t (zy_l (zy_l (zy_l (zy_t (zy_t (zy_t (zy_t (zy_t (zy_t (zy_t (zy_t (zy_t (zy_t (zy_t zy_h))))))))))))))) zy_n)) (zy_p (fun _ h => (zy_t (zy_r h))))))) (by decide +kernel) | exact goodIn_r _ [17, 7, 12, 32, 33, 34, 35] (by decide +kernel) (by decide +kernel)
set_option maxRecDepth 20000 in
theorem gX4_takeBack_X10_placeOf : GoodIn wsX4_takeBack (wsV RX4 48 RX10 yX10_placeOf wsX10_placeOf) := by first | exact goodIn_app (goodIn_sub (show zy_S _ wsX4_takeBack from (zy_c (zy_t (zy_l (zy_l (zy_l (zy_t (zy_t (zy_t (zy_t (zy_t (zy_t (zy_t (zy_t (zy_t (zy_t (zy_t (zy_t (zy_t zy_h))))))))))))))))) (zy_c (zy_t (zy_l (zy_l (zy_l (zy_t (zy_t (zy_t (zy_t (zy_t (zy_t (zy_t (zy_t (zy_t (zy_t (zy_t (zy_t (zy_t (zy_t zy_h)))))))))))))))))) (zy_c (zy_t (zy_l (zy_l (zy_l (zy_t (zy_t (zy_t (zy_t (zy_t (zy_t (zy_t (zy_t (zy_t (zy_t (zy_t (zy_t (zy_t (zy_t (zy_t zy_h))))))))))))))))))) (zy_c (zy_t (zy_l (zy_l (zy_l (zy_t (zy_t (zy_t (zy_t zy_h)))))))) zy_n))))) (by decide +kernel)) ggX4_takeBack_X10_placeOf | exact goodIn_app (goodIn_of _ (by decide +kernel)) ggX4_takeBack_X10_placeOf
set_option maxRecDepth 20000 in
theorem ggX4_takeBack_X10_remove : GoodIn wsX4_takeBack wsX10_remove := by first | exact goodIn_sub (show zy_S _ wsX4_takeBack from (zy_c (zy_t (zy_l (zy_l (zy_l (zy_t (zy_t (zy_t (zy_t (zy_t (zy_t (zy_t (zy_t (zy_t (zy_t (zy_t (zy_t (zy_t (zy_t (zy_t (zy_t (zy_t (zy_t (zy_t (zy_t zy_h)))))))))))))))))))))))) (zy_a (zy_c (zy_t (zy_l (zy_l (zy_l (zy_t (zy_t (zy_t (zy_t (zy_t (zy_t zy_h)))))))))) (zy_c (zy_t (zy_l (zy_l (zy_l (zy_t (zy_t (zy_t (zy_t (zy_t (zy_t (zy_t (zy_t (zy_t (zy_t (zy_t zy_h))))))))))))))) (zy_c (zy_t (zy_l (zy_l (zy_l (zy_t (zy_t (zy_t (zy_t (zy_t (zy_t (zy_t (zy_t (zy_t (zy_t (zy_t (zy_t (zy_t (zy_t (zy_t (zy_t (zy_t (zy_t (zy_t (zy_t (zy_t zy_h))))))))))))))))))))))))) (zy_c (zy_t (zy_l (zy_l (zy_l (zy_t (zy_t (zy_t (zy_t (zy_t (zy_t (zy_t (zy_t (zy_t (zy_t (zy_t (zy_t (zy_t (zy_t (zy_t (zy_t (zy_t (zy_t (zy_t (zy_t (zy_t (zy_t zy_h)))))))))))))))))))))))))) (zy_c (zy_t (zy_l (zy_l (zy_l (zy_t (zy_t (zy_t (zy_t (zy_t (zy_t (zy_t (zy_t (zy_t (zy_t (zy_t (zy_t (zy_t (zy_t (zy_t (zy_t (zy_t (zy_t (zy_t (zy_t (zy_t (zy_t (zy_t zy_h))))))))))))))))))))))))))) (zy_c (zy_t (zy_l (zy_l (zy_r zy_h)))) (zy_c (zy_t (zy_l (zy_l (zy_l (zy_t (zy_t (zy_t (zy_t (zy_t (zy_t (zy_t (zy_t (zy_t (zy_t (zy_t (zy_t zy_h)))))))))))))))) zy_n))))))) (zy_p (fun _ h => (zy_t (zy_r h))))))) (by decide +kernel) | exact goodIn_r _ [21, 7, 12, 22, 23, 24, 25, 13, 32, 33, 34, 35] (by decide +kernel) (by decide +kernel)
set_option maxRecDepth 20000 in
theorem gX4_takeBack_X10_remove : GoodIn wsX4_takeBack (wsV RX4 54 RX10 yX10_remove wsX10_remove) := by first | exact goodIn_app (goodIn_sub (show zy_S _ wsX4_takeBack from (zy_c (zy_t (zy_l (zy_l (zy_l (zy_t (zy_t (zy_t (zy_t (zy_t (zy_t (zy_t (zy_t (zy_t (zy_t (zy_t (zy_t (zy_t (zy_t (zy_t (zy_t (zy_t zy_h))))))))))))))))))))) (zy_c (zy_t (zy_l (zy_l (zy_l (zy_t (zy_t (zy_t (zy_t (zy_t (zy_t (zy_t (zy_t (zy_t (zy_t (zy_t (zy_t (zy_t (zy_t (zy_t (zy_t (zy_t (zy_t zy_h)))))))))))))))))))))) (zy_c (zy_t (zy_l (zy_l (zy_l (zy_t (zy_t (zy_t (zy_t (zy_t (zy_t (zy_t (zy_t (zy_t (zy_t (zy_t (zy_t (zy_t (zy_t (zy_t (zy_t (zy_t (zy_t (zy_t zy_h))))))))))))))))))))))) (zy_c (zy_t (zy_l (zy_l (zy_l (zy_t (zy_t (zy_t (zy_t zy_h)))))))) zy_n))))) (by decide +kernel)) ggX4_takeBack_X10_remove | exact goodIn_app (goodIn_of _ (by decide +kernel)) ggX4_takeBack_X10_remove
set_option maxRecDepth 20000 in
theorem ggX4_takeBack_X10_add : GoodIn wsX4_takeBack wsX10_add := by first | exact goodIn_sub (show zy_S _ wsX4_takeBack from (zy_c (zy_t (zy_l (zy_l (zy_r (zy_t (zy_t (zy_t (zy_t zy_h)))))))) (zy_a (zy_c (zy_t (zy_l (zy_l (zy_l (zy_t (zy_t (zy_t (zy_t (zy_t (zy_t zy_h)))))))))) (zy_c (zy_t (zy_l (zy_l (zy_l (zy_t (zy_t (zy_t (zy_t (zy_t (zy_t (zy_t (zy_t (zy_t (zy_t (zy_t zy_h))))))))))))))) (zy_c (zy_t (zy_l (zy_l (zy_l (zy_t (zy_t (zy_t (zy_t (zy_t (zy_t (zy_t (zy_t (zy_t (zy_t (zy_t (zy_t zy_h)))))))))))))))) zy_n))) (zy_p (fun _ h => (zy_t (zy_r h))))))) (by decide +kernel) | exact goodIn_r _ [29, 7, 12, 13, 32, 33, 34, 35] (by decide +kernel) (by decide +kernel)
set_option maxRecDepth 20000 in
theorem gX4_takeBack_X10_add : GoodIn wsX4_takeBack (wsV RX4 34 RX10 yX10_add wsX10_add) := by first | exact goodIn_app (goodIn_sub (show zy_S _ wsX4_takeBack from (zy_c (zy_t (zy_l (zy_l (zy_r (zy_t zy_h))))) (zy_c (zy_t (zy_l (zy_l (zy_r (zy_t (zy_t zy_h)))))) (zy_c (zy_t (zy_l (zy_l (zy_r (zy_t (zy_t (zy_t zy_h))))))) (zy_c (zy_t (zy_l (zy_l (zy_l (zy_t (zy_t (zy_t (zy_t zy_h)))))))) zy_n))))) (by decide +kernel)) ggX4_takeBack_X10_add | exact goodIn_app (goodIn_of _ (by decide +kernel)) ggX4_takeBack_X10_add
theorem dX4_takeBack_0 : decode cX4_takeBack 0 = .ok (.iload_n 1, 1) := by decide +kernel
theorem dX4_takeBack_1 : decode cX4_takeBack 1 = .ok (.istore_n 3, 1) := by decide +kernel
theorem dX4_takeBack_2 : decode cX4_takeBack 2 = .ok (.iload_n 1, 1) := by decide +kernel
theorem dX4_takeBack_3 : decode cX4_takeBack 3 = .ok (.iload_n 2, 1) := by decide +kernel
theorem dX4_takeBack_4 : decode cX4_takeBack 4 = .ok (.iadd, 1) := by decide +kernel
theorem dX4_takeBack_5 : decode cX4_takeBack 5 = .ok (.istore 4, 2) := by decide +kernel
theorem dX4_takeBack_7 : decode cX4_takeBack 7 = .ok (.aload_n 0, 1) := by decide +kernel
theorem dX4_takeBack_8 : decode cX4_takeBack 8 = .ok (.getfield 14, 3) := by decide +kernel
theorem dX4_takeBack_11 : decode cX4_takeBack 11 = .ok (.invokevirtual 57, 3) := by decide +kernel
theorem dX4_takeBack_14 : decode cX4_takeBack 14 = .ok (.iconst 1, 1) := by decide +kernel
theorem dX4_takeBack_15 : decode cX4_takeBack 15 = .ok (.isub, 1) := by decide +kernel
theorem dX4_takeBack_16 : decode cX4_takeBack 16 = .ok (.istore 5, 2) := by decide +kernel
theorem dX4_takeBack_18 : decode cX4_takeBack 18 = .ok (.iload 5, 2) := by decide +kernel
theorem dX4_takeBack_20 : decode cX4_takeBack 20 = .ok (.ifCond .lt 79, 3) := by decide +kernel
theorem dX4_takeBack_23 : decode cX4_takeBack 23 = .ok (.aload_n 0, 1) := by decide +kernel
theorem dX4_takeBack_24 : decode cX4_takeBack 24 = .ok (.getfield 14, 3) := by decide +kernel
theorem dX4_takeBack_27 : decode cX4_takeBack 27 = .ok (.iload 5, 2) := by decide +kernel
theorem dX4_takeBack_29 : decode cX4_takeBack 29 = .ok (.invokevirtual 63, 3) := by decide +kernel
theorem dX4_takeBack_32 : decode cX4_takeBack 32 = .ok (.iload_n 1, 1) := by decide +kernel
theorem dX4_takeBack_33 : decode cX4_takeBack 33 = .ok (.if_icmp .ne 25, 3) := by decide +kernel
theorem dX4_takeBack_36 : decode cX4_takeBack 36 = .ok (.aload_n 0, 1) := by decide +kernel
theorem dX4_takeBack_37 : decode cX4_takeBack 37 = .ok (.getfield 14, 3) := by decide +kernel
theorem dX4_takeBack_40 : decode cX4_takeBack 40 = .ok (.iload 5, 2) := by decide +kernel
theorem dX4_takeBack_42 : decode cX4_takeBack 42 = .ok (.invokevirtual 48, 3) := by decide +kernel
theorem dX4_takeBack_45 : decode cX4_takeBack 45 = .ok (.istore_n 3, 1) := by decide +kernel
theorem dX4_takeBack_46 : decode cX4_takeBack 46 = .ok (.aload_n 0, 1) := by decide +kernel
theorem dX4_takeBack_47 : decode cX4_takeBack 47 = .ok (.getfield 14, 3) := by decide +kernel
theorem dX4_takeBack_50 : decode cX4_takeBack 50 = .ok (.iload 5, 2) := by decide +kernel
theorem dX4_takeBack_52 : decode cX4_takeBack 52 = .ok (.invokevirtual 54, 3) := by decide +kernel
theorem dX4_takeBack_55 : decode cX4_takeBack 55 = .ok (.goto 38, 3) := by decide +kernel
theorem dX4_takeBack_58 : decode cX4_takeBack 58 = .ok (.aload_n 0, 1) := by decide +kernel
theorem dX4_takeBack_59 : decode cX4_takeBack 59 = .ok (.getfield 14, 3) := by decide +kernel
theorem dX4_takeBack_62 : decode cX4_takeBack 62 = .ok (.iload 5, 2) := by decide +kernel
theorem dX4_takeBack_64 : decode cX4_takeBack 64 = .ok (.invokevirtual 48, 3) := by decide +kernel
theorem dX4_takeBack_67 : decode cX4_takeBack 67 = .ok (.iload_n 1, 1) := by decide +kernel
theorem dX4_takeBack_68 : decode cX4_takeBack 68 = .ok (.iload_n 2, 1) := by decide +kernel
theorem dX4_takeBack_69 : decode cX4_takeBack 69 = .ok (.iadd, 1) := by decide +kernel
theorem dX4_takeBack_70 : decode cX4_takeBack 70 = .ok (.if_icmp .ne 23, 3) := by decide +kernel
theorem dX4_takeBack_73 : decode cX4_takeBack 73 = .ok (.aload_n 0, 1) := by decide +kernel
theorem dX4_takeBack_74 : decode cX4_takeBack 74 = .ok (.getfield 14, 3) := by decide +kernel
theorem dX4_takeBack_77 : decode cX4_takeBack 77 = .ok (.iload 5, 2) := by decide +kernel
theorem dX4_takeBack_79 : decode cX4_takeBack 79 = .ok (.invokevirtual 63, 3) := by decide +kernel
theorem dX4_takeBack_82 : decode cX4_takeBack 82 = .ok (.istore 4, 2) := by decide +kernel
theorem dX4_takeBack_84 : decode cX4_takeBack 84 = .ok (.aload_n 0, 1) := by decide +kernel
theorem dX4_takeBack_85 : decode cX4_takeBack 85 = .ok (.getfield 14, 3) := by decide +kernel
theorem dX4_takeBack_88 : decode cX4_takeBack 88 = .ok (.iload 5, 2) := by decide +kernel
theorem dX4_takeBack_90 : decode cX4_takeBack 90 = .ok (.invokevirtual 54, 3) := by decide +kernel
theorem dX4_takeBack_93 : decode cX4_takeBack 93 = .ok (.iinc 5 (-1), 3) := by decide +kernel
theorem dX4_takeBack_96 : decode cX4_takeBack 96 = .ok (.goto (-78), 3) := by decide +kernel
theorem dX4_takeBack_99 : decode cX4_takeBack 99 = .ok (.aload_n 0, 1) := by decide +kernel
theorem dX4_takeBack_100 : decode cX4_takeBack 100 = .ok (.getfield 14, 3) := by decide +kernel
theorem dX4_takeBack_103 : decode cX4_takeBack 103 = .ok (.iload_n 3, 1) := by decide +kernel
theorem dX4_takeBack_104 : decode cX4_takeBack 104 = .ok (.iload 4, 2) := by decide +kernel
theorem dX4_takeBack_106 : decode cX4_takeBack 106 = .ok (.iload_n 3, 1) := by decide +kernel
theorem dX4_takeBack_107 : decode cX4_takeBack 107 = .ok (.isub, 1) := by decide +kernel
theorem dX4_takeBack_108 : decode cX4_takeBack 108 = .ok (.invokevirtual 34, 3) := by decide +kernel
theorem dX4_takeBack_111 : decode cX4_takeBack 111 = .ok (.return_, 1) := by decide +kernel
set_option maxRecDepth 20000 in
theorem ggX4_placeInList_X10_size : GoodIn wsX4_placeInList wsX10_size := by first | exact goodIn_sub (show zy_S _ wsX4_placeInList from (zy_c (zy_t (zy_l (zy_l (zy_t (zy_t (zy_t (zy_t (zy_t zy_h)))))))) (zy_a (zy_c (zy_t (zy_l (zy_l (zy_t (zy_t (zy_t (zy_t (zy_t (zy_t zy_h))))))))) zy_n) (zy_p (fun _ h => (zy_t (zy_r h))))))) (by decide +kernel) | exact goodIn_r _ [6, 7, 24, 25, 26, 27] (by decide +kernel) (by decide +kernel)
set_option maxRecDepth 20000 in
theorem gX4_placeInList_X10_size : GoodIn wsX4_placeInList (wsV RX4 57 RX10 yX10_size wsX10_size) := by first | exact goodIn_app (goodIn_sub (show zy_S _ wsX4_placeInList from (zy_c (zy_t (zy_l (zy_l (zy_t zy_h)))) (zy_c (zy_t (zy_l (zy_l (zy_t (zy_t zy_h))))) (zy_c (zy_t (zy_l (zy_l (zy_t (zy_t (zy_t zy_h)))))) (zy_c (zy_t (zy_l (zy_l (zy_t (zy_t (zy_t (zy_t zy_h))))))) zy_n))))) (by decide +kernel)) ggX4_placeInList_X10_size | exact goodIn_app (goodIn_of _ (by decide +kernel)) ggX4_placeInList_X10_size
set_option maxRecDepth 20000 in
theorem ggX4_placeInList_X10_wordsOf : GoodIn wsX4_placeInList wsX10_wordsOf := by first | exact goodIn_sub (show zy_S _ wsX4_placeInList from (zy_c (zy_t (zy_l (zy_l (zy_t (zy_t (zy_t (zy_t (zy_t (zy_t (zy_t (zy_t (zy_t (zy_t zy_h))))))))))))) (zy_a (zy_c (zy_t (zy_l (zy_l (zy_t (zy_t (zy_t (zy_t (zy_t (zy_t zy_h))))))))) (zy_c (zy_t (zy_l (zy_l (zy_t (zy_t (zy_t (zy_t (zy_t (zy_t (zy_t (zy_t (zy_t (zy_t (zy_t zy_h)))))))))))))) zy_n)) (zy_p (fun _ h => (zy_t (zy_r h))))))) (by decide +kernel) | exact goodIn_r _ [11, 7, 12, 24, 25, 26, 27] (by decide +kernel) (by decide +kernel)
set_option maxRecDepth 20000 in
theorem gX4_placeInList_X10_wordsOf : GoodIn wsX4_placeInList (wsV RX4 51 RX10 yX10_wordsOf wsX10_wordsOf) := by first | exact goodIn_app (goodIn_sub (show zy_S _ wsX4_placeInList from (zy_c (zy_t (zy_l (zy_l (zy_t (zy_t (zy_t (zy_t (zy_t (zy_t (zy_t zy_h)))))))))) (zy_c (zy_t (zy_l (zy_l (zy_t (zy_t (zy_t (zy_t (zy_t (zy_t (zy_t (zy_t zy_h))))))))))) (zy_c (zy_t (zy_l (zy_l (zy_t (zy_t (zy_t (zy_t (zy_t (zy_t (zy_t (zy_t (zy_t zy_h)))))))))))) (zy_c (zy_t (zy_l (zy_l (zy_t (zy_t (zy_t (zy_t zy_h))))))) zy_n))))) (by decide +kernel)) ggX4_placeInList_X10_wordsOf | exact goodIn_app (goodIn_of _ (by decide +kernel)) ggX4_placeInList_X10_wordsOf
set_option maxRecDepth 20000 in
theorem ggX4_placeInList_X4_listOf : GoodIn wsX4_placeInList wsX4_listOf := by first | exact goodIn_sub (show zy_S _ wsX4_placeInList from (zy_c (zy_t (zy_l (zy_l (zy_t (zy_t (zy_t (zy_t (zy_t (zy_t (zy_t (zy_t (zy_t (zy_t (zy_t (zy_t (zy_t (zy_t (zy_t zy_h)))))))))))))))))) zy_n)) (by decide +kernel) | exact goodIn_r _ [16] (by decide +kernel) (by decide +kernel)
set_option maxRecDepth 20000 in
theorem gX4_placeInList_X4_listOf : GoodIn wsX4_placeInList (va_wsS RX4 42 yX4_listOf wsX4_listOf) := by first | exact goodIn_app (goodIn_sub (show zy_S _ wsX4_placeInList from (zy_c (zy_t (zy_l (zy_l (zy_t (zy_t (zy_t (zy_t (zy_t (zy_t (zy_t (zy_t (zy_t (zy_t (zy_t (zy_t zy_h))))))))))))))) (zy_c (zy_t (zy_l (zy_l (zy_t (zy_t (zy_t (zy_t (zy_t (zy_t (zy_t (zy_t (zy_t (zy_t (zy_t (zy_t (zy_t zy_h)))))))))))))))) (zy_c (zy_t (zy_l (zy_l (zy_t (zy_t (zy_t (zy_t (zy_t (zy_t (zy_t (zy_t (zy_t (zy_t (zy_t (zy_t (zy_t (zy_t zy_h))))))))))))))))) zy_n)))) (by decide +kernel)) ggX4_placeInList_X4_listOf | exact goodIn_app (goodIn_of _ (by decide +kernel)) ggX4_placeInList_X4_listOf
set_option maxRecDepth 20000 in
theorem ggX4_placeInList_X10_placeOf : GoodIn wsX4_placeInList wsX10_placeOf := by first | exact goodIn_sub (show zy_S _ wsX4_placeInList from (zy_c (zy_t (zy_l (zy_l (zy_t (zy_t (zy_t (zy_t (zy_t (zy_t (zy_t (zy_t (zy_t (zy_t (zy_t (zy_t (zy_t (zy_t (zy_t (zy_t (zy_t (zy_t (zy_t zy_h)))))))))))))))))))))) (zy_a (zy_c (zy_t (zy_l (zy_l (zy_t (zy_t (zy_t (zy_t (zy_t (zy_t zy_h))))))))) (zy_c (zy_t (zy_l (zy_l (zy_t (zy_t (zy_t (zy_t (zy_t (zy_t (zy_t (zy_t (zy_t (zy_t (zy_t (zy_t (zy_t (zy_t (zy_t (zy_t (zy_t (zy_t (zy_t (zy_t zy_h))))))))))))))))))))))) zy_n)) (zy_p (fun _ h => (zy_t (zy_r h))))))) (by decide +kernel) | exact goodIn_r _ [20, 7, 21, 24, 25, 26, 27] (by decide +kernel) (by decide +kernel)
set_option maxRecDepth 20000 in
theorem gX4_placeInList_X10_placeOf : GoodIn wsX4_placeInList (wsV RX4 48 RX10 yX10_placeOf wsX10_placeOf) := by first | exact goodIn_app (goodIn_sub (show zy_S _ wsX4_placeInList from (zy_c (zy_t (zy_l (zy_l (zy_t (zy_t (zy_t (zy_t (zy_t (zy_t (zy_t (zy_t (zy_t (zy_t (zy_t (zy_t (zy_t (zy_t (zy_t (zy_t zy_h))))))))))))))))))) (zy_c (zy_t (zy_l (zy_l (zy_t (zy_t (zy_t (zy_t (zy_t (zy_t (zy_t (zy_t (zy_t (zy_t (zy_t (zy_t (zy_t (zy_t (zy_t (zy_t (zy_t zy_h)))))))))))))))))))) (zy_c (zy_t (zy_l (zy_l (zy_t (zy_t (zy_t (zy_t (zy_t (zy_t (zy_t (zy_t (zy_t (zy_t (zy_t (zy_t (zy_t (zy_t (zy_t (zy_t (zy_t (zy_t zy_h))))))))))))))))))))) (zy_c (zy_t (zy_l (zy_l (zy_t (zy_t (zy_t (zy_t zy_h))))))) zy_n))))) (by decide +kernel)) ggX4_placeInList_X10_placeOf | exact goodIn_app (goodIn_of _ (by decide +kernel)) ggX4_placeInList_X10_placeOf
theorem dX4_placeInList_0 : decode cX4_placeInList 0 = .ok (.iconst 0, 1) := by decide +kernel
theorem dX4_placeInList_1 : decode cX4_placeInList 1 = .ok (.istore_n 3, 1) := by decide +kernel
theorem dX4_placeInList_2 : decode cX4_placeInList 2 = .ok (.aload_n 0, 1) := by decide +kernel
theorem dX4_placeInList_3 : decode cX4_placeInList 3 = .ok (.getfield 14, 3) := by decide +kernel
theorem dX4_placeInList_6 : decode cX4_placeInList 6 = .ok (.invokevirtual 57, 3) := by decide +kernel
theorem dX4_placeInList_9 : decode cX4_placeInList 9 = .ok (.iconst 1, 1) := by decide +kernel
theorem dX4_placeInList_10 : decode cX4_placeInList 10 = .ok (.isub, 1) := by decide +kernel
theorem dX4_placeInList_11 : decode cX4_placeInList 11 = .ok (.istore 4, 2) := by decide +kernel
theorem dX4_placeInList_13 : decode cX4_placeInList 13 = .ok (.iload 4, 2) := by decide +kernel
theorem dX4_placeInList_15 : decode cX4_placeInList 15 = .ok (.ifCond .lt 43, 3) := by decide +kernel
theorem dX4_placeInList_18 : decode cX4_placeInList 18 = .ok (.aload_n 0, 1) := by decide +kernel
theorem dX4_placeInList_19 : decode cX4_placeInList 19 = .ok (.getfield 14, 3) := by decide +kernel
theorem dX4_placeInList_22 : decode cX4_placeInList 22 = .ok (.iload 4, 2) := by decide +kernel
theorem dX4_placeInList_24 : decode cX4_placeInList 24 = .ok (.invokevirtual 51, 3) := by decide +kernel
theorem dX4_placeInList_27 : decode cX4_placeInList 27 = .ok (.invokestatic 42, 3) := by decide +kernel
theorem dX4_placeInList_30 : decode cX4_placeInList 30 = .ok (.iload_n 1, 1) := by decide +kernel
theorem dX4_placeInList_31 : decode cX4_placeInList 31 = .ok (.if_icmp .ne 21, 3) := by decide +kernel
theorem dX4_placeInList_34 : decode cX4_placeInList 34 = .ok (.iload_n 3, 1) := by decide +kernel
theorem dX4_placeInList_35 : decode cX4_placeInList 35 = .ok (.iload_n 2, 1) := by decide +kernel
theorem dX4_placeInList_36 : decode cX4_placeInList 36 = .ok (.if_icmp .ne 13, 3) := by decide +kernel
theorem dX4_placeInList_39 : decode cX4_placeInList 39 = .ok (.aload_n 0, 1) := by decide +kernel
theorem dX4_placeInList_40 : decode cX4_placeInList 40 = .ok (.getfield 14, 3) := by decide +kernel
theorem dX4_placeInList_43 : decode cX4_placeInList 43 = .ok (.iload 4, 2) := by decide +kernel
theorem dX4_placeInList_45 : decode cX4_placeInList 45 = .ok (.invokevirtual 48, 3) := by decide +kernel
theorem dX4_placeInList_48 : decode cX4_placeInList 48 = .ok (.ireturn, 1) := by decide +kernel
theorem dX4_placeInList_49 : decode cX4_placeInList 49 = .ok (.iinc 3 1, 3) := by decide +kernel
theorem dX4_placeInList_52 : decode cX4_placeInList 52 = .ok (.iinc 4 (-1), 3) := by decide +kernel
theorem dX4_placeInList_55 : decode cX4_placeInList 55 = .ok (.goto (-42), 3) := by decide +kernel
theorem dX4_placeInList_58 : decode cX4_placeInList 58 = .ok (.iconst (-1), 1) := by decide +kernel
theorem dX4_placeInList_59 : decode cX4_placeInList 59 = .ok (.ireturn, 1) := by decide +kernel
theorem dX4_listOf_0 : decode cX4_listOf 0 = .ok (.iconst 0, 1) := by decide +kernel
theorem dX4_listOf_1 : decode cX4_listOf 1 = .ok (.istore_n 1, 1) := by decide +kernel
theorem dX4_listOf_2 : decode cX4_listOf 2 = .ok (.iconst 1, 1) := by decide +kernel
theorem dX4_listOf_3 : decode cX4_listOf 3 = .ok (.istore_n 2, 1) := by decide +kernel
theorem dX4_listOf_4 : decode cX4_listOf 4 = .ok (.iconst 0, 1) := by decide +kernel
theorem dX4_listOf_5 : decode cX4_listOf 5 = .ok (.istore_n 3, 1) := by decide +kernel
theorem dX4_listOf_6 : decode cX4_listOf 6 = .ok (.iload_n 3, 1) := by decide +kernel
theorem dX4_listOf_7 : decode cX4_listOf 7 = .ok (.bipush 10, 2) := by decide +kernel
theorem dX4_listOf_9 : decode cX4_listOf 9 = .ok (.if_icmp .ge 23, 3) := by decide +kernel
theorem dX4_listOf_12 : decode cX4_listOf 12 = .ok (.iload_n 2, 1) := by decide +kernel
theorem dX4_listOf_13 : decode cX4_listOf 13 = .ok (.iload_n 2, 1) := by decide +kernel
theorem dX4_listOf_14 : decode cX4_listOf 14 = .ok (.iadd, 1) := by decide +kernel
theorem dX4_listOf_15 : decode cX4_listOf 15 = .ok (.iload_n 0, 1) := by decide +kernel
theorem dX4_listOf_16 : decode cX4_listOf 16 = .ok (.if_icmp .gt 16, 3) := by decide +kernel
theorem dX4_listOf_19 : decode cX4_listOf 19 = .ok (.iload_n 2, 1) := by decide +kernel
theorem dX4_listOf_20 : decode cX4_listOf 20 = .ok (.iload_n 2, 1) := by decide +kernel
theorem dX4_listOf_21 : decode cX4_listOf 21 = .ok (.iadd, 1) := by decide +kernel
theorem dX4_listOf_22 : decode cX4_listOf 22 = .ok (.istore_n 2, 1) := by decide +kernel
theorem dX4_listOf_23 : decode cX4_listOf 23 = .ok (.iinc 1 1, 3) := by decide +kernel
theorem dX4_listOf_26 : decode cX4_listOf 26 = .ok (.iinc 3 1, 3) := by decide +kernel
theorem dX4_listOf_29 : decode cX4_listOf 29 = .ok (.goto (-23), 3) := by decide +kernel
theorem dX4_listOf_32 : decode cX4_listOf 32 = .ok (.iconst 4, 1) := by decide +kernel
theorem dX4_listOf_33 : decode cX4_listOf 33 = .ok (.iload_n 1, 1) := by decide +kernel
theorem dX4_listOf_34 : decode cX4_listOf 34 = .ok (.imul, 1) := by decide +kernel
theorem dX4_listOf_35 : decode cX4_listOf 35 = .ok (.iconst 4, 1) := by decide +kernel
theorem dX4_listOf_36 : decode cX4_listOf 36 = .ok (.iload_n 0, 1) := by decide +kernel
theorem dX4_listOf_37 : decode cX4_listOf 37 = .ok (.iload_n 2, 1) := by decide +kernel
theorem dX4_listOf_38 : decode cX4_listOf 38 = .ok (.isub, 1) := by decide +kernel
theorem dX4_listOf_39 : decode cX4_listOf 39 = .ok (.imul, 1) := by decide +kernel
theorem dX4_listOf_40 : decode cX4_listOf 40 = .ok (.iload_n 1, 1) := by decide +kernel
theorem dX4_listOf_41 : decode cX4_listOf 41 = .ok (.ishr, 1) := by decide +kernel
theorem dX4_listOf_42 : decode cX4_listOf 42 = .ok (.iadd, 1) := by decide +kernel
theorem dX4_listOf_43 : decode cX4_listOf 43 = .ok (.ireturn, 1) := by decide +kernel
set_option maxRecDepth 20000 in
theorem ggX5_init_X1_init : GoodIn wsX5_init wsX1_init := by first | exact goodIn_sub (show zy_S _ wsX5_init from (zy_c (zy_t (zy_l (zy_l (zy_l (zy_l (zy_l (zy_l (zy_l (zy_t (zy_t (zy_t (zy_t (zy_t (zy_t (zy_t zy_h))))))))))))))) (zy_a (zy_a (zy_a (zy_a (zy_a (zy_a (zy_a (zy_c (zy_t (zy_l (zy_l (zy_l (zy_l (zy_l (zy_l (zy_l (zy_t (zy_t (zy_t (zy_t (zy_t (zy_t (zy_t (zy_t zy_h)))))))))))))))) (zy_c (zy_t (zy_l (zy_l (zy_l (zy_l (zy_l (zy_l (zy_l (zy_t (zy_t (zy_t (zy_t (zy_t (zy_t (zy_t (zy_t (zy_t zy_h))))))))))))))))) (zy_c (zy_t (zy_l (zy_l (zy_l (zy_l (zy_l (zy_l (zy_l (zy_t (zy_t (zy_t (zy_t (zy_t (zy_t (zy_t (zy_t (zy_t (zy_t zy_h)))))))))))))))))) (zy_c (zy_t (zy_l (zy_l (zy_l (zy_l (zy_l (zy_l (zy_l (zy_t (zy_t (zy_t (zy_t (zy_t (zy_t (zy_t (zy_t (zy_t (zy_t (zy_t zy_h))))))))))))))))))) zy_n)))) (zy_p (fun _ h => (zy_t (zy_l (zy_l (zy_l (zy_l (zy_l (zy_r h)))))))))) (zy_p (fun _ h => (zy_t (zy_l (zy_l (zy_l (zy_l (zy_r h))))))))) (zy_p (fun _ h => (zy_t (zy_l (zy_l (zy_l (zy_r h)))))))) (zy_p (fun _ h => (zy_t (zy_l (zy_l (zy_r h))))))) (zy_p (fun _ h => (zy_t (zy_l (zy_l (zy_l (zy_l (zy_l (zy_l (zy_r h))))))))))) (zy_p (fun _ h => (zy_t (zy_l (zy_r h)))))) (zy_p (fun _ h => (zy_t (zy_r h))))))) (by decide +kernel) | exact goodIn_r _ [8, 9, 10, 11, 12, 17, 18, 19, 20, 21, 22, 23, 24, 25, 26, 13, 14, 15, 16, 27, 28, 29, 30] (by decide +kernel) (by decide +kernel)
set_option maxRecDepth 20000 in
theorem gX5_init_X1_init : GoodIn wsX5_init (wsX1_init) := ggX5_init_X1_init
theorem dX5_init_0 : decode cX5_init 0 = .ok (.aload_n 0, 1) := by decide +kernel
theorem dX5_init_1 : decode cX5_init 1 = .ok (.aload_n 1, 1) := by decide +kernel
theorem dX5_init_2 : decode cX5_init 2 = .ok (.invokespecial 3, 3) := by decide +kernel
theorem dX5_init_5 : decode cX5_init 5 = .ok (.aload_n 0, 1) := by decide +kernel
theorem dX5_init_6 : decode cX5_init 6 = .ok (.bipush 32, 2) := by decide +kernel
theorem dX5_init_8 : decode cX5_init 8 = .ok (.newarray .int, 2) := by decide +kernel
theorem dX5_init_10 : decode cX5_init 10 = .ok (.putfield 11, 3) := by decide +kernel
theorem dX5_init_13 : decode cX5_init 13 = .ok (.aload_n 0, 1) := by decide +kernel
theorem dX5_init_14 : decode cX5_init 14 = .ok (.bipush 32, 2) := by decide +kernel
theorem dX5_init_16 : decode cX5_init 16 = .ok (.newarray .int, 2) := by decide +kernel
theorem dX5_init_18 : decode cX5_init 18 = .ok (.putfield 15, 3) := by decide +kernel
theorem dX5_init_21 : decode cX5_init 21 = .ok (.aload_n 0, 1) := by decide +kernel
theorem dX5_init_22 : decode cX5_init 22 = .ok (.iconst 0, 1) := by decide +kernel
theorem dX5_init_23 : decode cX5_init 23 = .ok (.putfield 18, 3) := by decide +kernel
theorem dX5_init_26 : decode cX5_init 26 = .ok (.return_, 1) := by decide +kernel
set_option maxRecDepth 20000 in
theorem ggX5_begin_X7_words : GoodIn wsX5_begin wsX7_words := by first | exact goodIn_sub (show zy_S _ wsX5_begin from (zy_c (zy_t (zy_l (zy_l (zy_l (zy_l (zy_l (zy_l (zy_l (zy_l (zy_t (zy_t (zy_t (zy_t (zy_t (zy_t (zy_t (zy_t (zy_t zy_h)))))))))))))))))) (zy_a (zy_c (zy_t (zy_l (zy_l (zy_l (zy_l (zy_l (zy_l (zy_l (zy_l (zy_t (zy_t (zy_t (zy_t (zy_t (zy_t (zy_t (zy_t (zy_t (zy_t zy_h))))))))))))))))))) zy_n) (zy_p (fun _ h => (zy_t (zy_r h))))))) (by decide +kernel) | exact goodIn_r _ [10, 11, 34, 35, 36, 37, 38, 39, 40, 41, 42, 43] (by decide +kernel) (by decide +kernel)
set_option maxRecDepth 20000 in
theorem gX5_begin_X7_words : GoodIn wsX5_begin (wsV RX5 26 RX7 yX7_words wsX7_words) := by first | exact goodIn_app (goodIn_sub (show zy_S _ wsX5_begin from (zy_c (zy_t (zy_l (zy_l (zy_l (zy_l (zy_l (zy_l (zy_l (zy_l (zy_t (zy_t (zy_t (zy_t (zy_t zy_h)))))))))))))) (zy_c (zy_t (zy_l (zy_l (zy_l (zy_l (zy_l (zy_l (zy_l (zy_l (zy_t (zy_t (zy_t (zy_t (zy_t (zy_t zy_h))))))))))))))) (zy_c (zy_t (zy_l (zy_l (zy_l (zy_l (zy_l (zy_l (zy_l (zy_l (zy_t (zy_t (zy_t (zy_t (zy_t (zy_t (zy_t zy_h)))))))))))))))) (zy_c (zy_t (zy_l (zy_l (zy_l (zy_l (zy_l (zy_l (zy_l (zy_l (zy_t (zy_t (zy_t (zy_t (zy_t (zy_t (zy_t (zy_t zy_h))))))))))))))))) zy_n))))) (by decide +kernel)) ggX5_begin_X7_words | exact goodIn_app (goodIn_of _ (by decide +kernel)) ggX5_begin_X7_words
set_option maxRecDepth 20000 in
theorem ggX5_begin_J7_fill_53178 : GoodIn wsX5_begin wsJ7_fill_53178 := by first | exact goodIn_sub (show zy_S _ wsX5_begin from (zy_c (zy_t (zy_l (zy_l (zy_l (zy_l (zy_l (zy_l (zy_l (zy_l (zy_t (zy_t (zy_t (zy_t (zy_t (zy_t (zy_t (zy_t (zy_t (zy_t (zy_t (zy_t (zy_t (zy_t zy_h))))))))))))))))))))))) zy_n)) (by decide +kernel) | exact goodIn_r _ [15] (by decide +kernel) (by decide +kernel)
set_option maxRecDepth 20000 in
theorem gX5_begin_J7_fill_53178 : GoodIn wsX5_begin (va_wsS RX5 32 yJ7_fill_53178 wsJ7_fill_53178) := by first | exact goodIn_app (goodIn_sub (show zy_S _ wsX5_begin from (zy_c (zy_t (zy_l (zy_l (zy_l (zy_l (zy_l (zy_l (zy_l (zy_l (zy_t (zy_t (zy_t (zy_t (zy_t (zy_t (zy_t (zy_t (zy_t (zy_t (zy_t zy_h)))))))))))))))))))) (zy_c (zy_t (zy_l (zy_l (zy_l (zy_l (zy_l (zy_l (zy_l (zy_l (zy_t (zy_t (zy_t (zy_t (zy_t (zy_t (zy_t (zy_t (zy_t (zy_t (zy_t (zy_t zy_h))))))))))))))))))))) (zy_c (zy_t (zy_l (zy_l (zy_l (zy_l (zy_l (zy_l (zy_l (zy_l (zy_t (zy_t (zy_t (zy_t (zy_t (zy_t (zy_t (zy_t (zy_t (zy_t (zy_t (zy_t (zy_t zy_h)))))))))))))))))))))) zy_n)))) (by decide +kernel)) ggX5_begin_J7_fill_53178 | exact goodIn_app (goodIn_of _ (by decide +kernel)) ggX5_begin_J7_fill_53178
theorem dX5_begin_0 : decode cX5_begin 0 = .ok (.aload_n 0, 1) := by decide +kernel
theorem dX5_begin_1 : decode cX5_begin 1 = .ok (.aload_n 0, 1) := by decide +kernel
theorem dX5_begin_2 : decode cX5_begin 2 = .ok (.getfield 22, 3) := by decide +kernel
theorem dX5_begin_5 : decode cX5_begin 5 = .ok (.invokevirtual 26, 3) := by decide +kernel
theorem dX5_begin_8 : decode cX5_begin 8 = .ok (.bipush 32, 2) := by decide +kernel
theorem dX5_begin_10 : decode cX5_begin 10 = .ok (.idiv, 1) := by decide +kernel
theorem dX5_begin_11 : decode cX5_begin 11 = .ok (.putfield 18, 3) := by decide +kernel
theorem dX5_begin_14 : decode cX5_begin 14 = .ok (.aload_n 0, 1) := by decide +kernel
theorem dX5_begin_15 : decode cX5_begin 15 = .ok (.getfield 11, 3) := by decide +kernel
theorem dX5_begin_18 : decode cX5_begin 18 = .ok (.iconst 0, 1) := by decide +kernel
theorem dX5_begin_19 : decode cX5_begin 19 = .ok (.invokestatic 32, 3) := by decide +kernel
theorem dX5_begin_22 : decode cX5_begin 22 = .ok (.aload_n 0, 1) := by decide +kernel
theorem dX5_begin_23 : decode cX5_begin 23 = .ok (.getfield 15, 3) := by decide +kernel
theorem dX5_begin_26 : decode cX5_begin 26 = .ok (.iconst 0, 1) := by decide +kernel
theorem dX5_begin_27 : decode cX5_begin 27 = .ok (.invokestatic 32, 3) := by decide +kernel
theorem dX5_begin_30 : decode cX5_begin 30 = .ok (.return_, 1) := by decide +kernel
set_option maxRecDepth 20000 in
theorem ggX5_spanOf_X11_powerFrom : GoodIn wsX5_spanOf wsX11_powerFrom := by first | exact goodIn_sub (show zy_S _ wsX5_spanOf from (zy_c (zy_t (zy_t (zy_t zy_h))) zy_n)) (by decide +kernel) | exact goodIn_r _ [3] (by decide +kernel) (by decide +kernel)
set_option maxRecDepth 20000 in
theorem gX5_spanOf_X11_powerFrom_n38 : GoodIn wsX5_spanOf (wsX11_powerFrom) := ggX5_spanOf_X11_powerFrom
theorem dX5_spanOf_0 : decode cX5_spanOf 0 = .ok (.iload_n 1, 1) := by decide +kernel
theorem dX5_spanOf_1 : decode cX5_spanOf 1 = .ok (.bipush 32, 2) := by decide +kernel
theorem dX5_spanOf_3 : decode cX5_spanOf 3 = .ok (.if_icmp .gt 10, 3) := by decide +kernel
theorem dX5_spanOf_6 : decode cX5_spanOf 6 = .ok (.iload_n 1, 1) := by decide +kernel
theorem dX5_spanOf_7 : decode cX5_spanOf 7 = .ok (.invokestatic 38, 3) := by decide +kernel
theorem dX5_spanOf_10 : decode cX5_spanOf 10 = .ok (.goto 15, 3) := by decide +kernel
theorem dX5_spanOf_13 : decode cX5_spanOf 13 = .ok (.iload_n 1, 1) := by decide +kernel
theorem dX5_spanOf_14 : decode cX5_spanOf 14 = .ok (.bipush 32, 2) := by decide +kernel
theorem dX5_spanOf_16 : decode cX5_spanOf 16 = .ok (.iadd, 1) := by decide +kernel
theorem dX5_spanOf_17 : decode cX5_spanOf 17 = .ok (.iconst 1, 1) := by decide +kernel
theorem dX5_spanOf_18 : decode cX5_spanOf 18 = .ok (.isub, 1) := by decide +kernel
theorem dX5_spanOf_19 : decode cX5_spanOf 19 = .ok (.bipush 32, 2) := by decide +kernel
theorem dX5_spanOf_21 : decode cX5_spanOf 21 = .ok (.idiv, 1) := by decide +kernel
theorem dX5_spanOf_22 : decode cX5_spanOf 22 = .ok (.bipush 32, 2) := by decide +kernel
theorem dX5_spanOf_24 : decode cX5_spanOf 24 = .ok (.imul, 1) := by decide +kernel
theorem dX5_spanOf_25 : decode cX5_spanOf 25 = .ok (.ireturn, 1) := by decide +kernel
set_option maxRecDepth 20000 in
theorem ggX5_take_X5_takeRow : GoodIn wsX5_take wsX5_takeRow := by first | exact goodIn_sub (show zy_S _ wsX5_take from (zy_c (zy_t (zy_l (zy_l (zy_l (zy_l (zy_l (zy_l (zy_l (zy_l (zy_l (zy_t (zy_t (zy_t (zy_t zy_h)))))))))))))) (zy_a (zy_a (zy_a (zy_a (zy_a (zy_a (zy_a (zy_a (zy_c (zy_t (zy_l (zy_l (zy_l (zy_l (zy_l (zy_l (zy_l (zy_l (zy_l (zy_t (zy_t (zy_t (zy_t (zy_t zy_h))))))))))))))) (zy_c (zy_t (zy_l (zy_l (zy_l (zy_l (zy_l (zy_l (zy_l (zy_l (zy_l (zy_t (zy_t (zy_t (zy_t (zy_t (zy_t zy_h)))))))))))))))) (zy_c (zy_t (zy_l (zy_l (zy_l (zy_l (zy_l (zy_l (zy_l (zy_l (zy_l (zy_t (zy_t (zy_t (zy_t (zy_t (zy_t (zy_t zy_h))))))))))))))))) (zy_c (zy_t (zy_l (zy_l (zy_l (zy_l (zy_l (zy_l (zy_l (zy_l (zy_l (zy_t (zy_t (zy_t (zy_t (zy_t (zy_t (zy_t (zy_t zy_h)))))))))))))))))) (zy_c (zy_t (zy_l (zy_l (zy_l (zy_l (zy_l (zy_l (zy_l (zy_l (zy_l (zy_t (zy_t (zy_t (zy_t (zy_t (zy_t (zy_t (zy_t (zy_t zy_h))))))))))))))))))) (zy_c (zy_t (zy_l (zy_l (zy_l (zy_l (zy_l (zy_l (zy_l (zy_l (zy_l (zy_t (zy_t (zy_t (zy_t (zy_t (zy_t (zy_t (zy_t (zy_t (zy_t zy_h)))))))))))))))))))) (zy_c (zy_t (zy_l (zy_l (zy_l (zy_l (zy_l (zy_l (zy_l (zy_l (zy_l (zy_t (zy_t (zy_t (zy_t (zy_t (zy_t (zy_t (zy_t (zy_t (zy_t (zy_t zy_h))))))))))))))))))))) (zy_c (zy_t (zy_l (zy_l (zy_l (zy_l (zy_l (zy_l (zy_l (zy_l (zy_l (zy_t (zy_t (zy_t (zy_t (zy_t (zy_t (zy_t (zy_t (zy_t (zy_t (zy_t (zy_t zy_h)))))))))))))))))))))) (zy_c (zy_t (zy_l (zy_l (zy_l (zy_l (zy_l (zy_l (zy_l (zy_l (zy_l (zy_t (zy_t (zy_t (zy_t (zy_t (zy_t (zy_t (zy_t (zy_t (zy_t (zy_t (zy_t (zy_t zy_h))))))))))))))))))))))) (zy_c (zy_t (zy_l (zy_l (zy_l (zy_l (zy_l (zy_l (zy_l (zy_l (zy_l (zy_t (zy_t (zy_t (zy_t (zy_t (zy_t (zy_t (zy_t (zy_t (zy_t (zy_t (zy_t (zy_t (zy_t zy_h)))))))))))))))))))))))) (zy_c (zy_t (zy_l (zy_l (zy_l (zy_l (zy_l (zy_l (zy_l (zy_l (zy_l (zy_t (zy_t (zy_t (zy_t (zy_t (zy_t (zy_t (zy_t (zy_t (zy_t (zy_t (zy_t (zy_t (zy_t (zy_t zy_h))))))))))))))))))))))))) (zy_c (zy_t (zy_l (zy_l (zy_l (zy_l (zy_l (zy_l (zy_l (zy_l (zy_l (zy_t (zy_t (zy_t (zy_t (zy_t (zy_t (zy_t (zy_t (zy_t (zy_t (zy_t (zy_t (zy_t (zy_t (zy_t (zy_t zy_h)))))))))))))))))))))))))) (zy_c (zy_t (zy_l (zy_l (zy_l (zy_l (zy_l (zy_l (zy_l (zy_l (zy_l (zy_t (zy_t (zy_t (zy_t (zy_t (zy_t (zy_t (zy_t (zy_t (zy_t (zy_t (zy_t (zy_t (zy_t (zy_t (zy_t (zy_t zy_h))))))))))))))))))))))))))) (zy_c (zy_t (zy_l (zy_l (zy_l (zy_l (zy_l (zy_l (zy_l (zy_l (zy_l (zy_t (zy_t (zy_t zy_h))))))))))))) (zy_c (zy_t (zy_l (zy_l (zy_l (zy_l (zy_l (zy_l (zy_l (zy_l (zy_l (zy_t (zy_t (zy_t (zy_t (zy_t (zy_t (zy_t (zy_t (zy_t (zy_t (zy_t (zy_t (zy_t (zy_t (zy_t (zy_t (zy_t (zy_t zy_h)))))))))))))))))))))))))))) (zy_c (zy_t (zy_l (zy_l (zy_l (zy_l (zy_l (zy_l (zy_l (zy_l (zy_l (zy_t (zy_t (zy_t (zy_t (zy_t (zy_t (zy_t (zy_t (zy_t (zy_t (zy_t (zy_t (zy_t (zy_t (zy_t (zy_t (zy_t (zy_t (zy_t zy_h))))))))))))))))))))))))))))) (zy_c (zy_t (zy_l (zy_l (zy_l (zy_l (zy_l (zy_l (zy_l (zy_l (zy_l (zy_t (zy_t (zy_t (zy_t (zy_t (zy_t (zy_t (zy_t (zy_t (zy_t (zy_t (zy_t (zy_t (zy_t (zy_t (zy_t (zy_t (zy_t (zy_t (zy_t zy_h)))))))))))))))))))))))))))))) (zy_c (zy_t (zy_l (zy_l (zy_l (zy_l (zy_l (zy_l (zy_l (zy_l (zy_l (zy_t (zy_t (zy_t (zy_t (zy_t (zy_t (zy_t (zy_t (zy_t (zy_t (zy_t (zy_t (zy_t (zy_t (zy_t (zy_t (zy_t (zy_t (zy_t (zy_t (zy_t zy_h))))))))))))))))))))))))))))))) (zy_c (zy_t (zy_l (zy_l (zy_l (zy_l (zy_l (zy_l (zy_l (zy_l (zy_l (zy_t (zy_t (zy_t (zy_t (zy_t (zy_t (zy_t (zy_t (zy_t (zy_t (zy_t (zy_t (zy_t (zy_t (zy_t (zy_t (zy_t (zy_t (zy_t (zy_t (zy_t (zy_t zy_h)))))))))))))))))))))))))))))))) (zy_c (zy_t (zy_l (zy_l (zy_l (zy_l (zy_l (zy_l (zy_l (zy_l (zy_l (zy_t (zy_t (zy_t (zy_t (zy_t (zy_t (zy_t (zy_t (zy_t (zy_t (zy_t (zy_t (zy_t (zy_t (zy_t (zy_t (zy_t (zy_t (zy_t (zy_t (zy_t (zy_t (zy_t zy_h))))))))))))))))))))))))))))))))) zy_n)))))))))))))))))))) (zy_p (fun _ h => (zy_t (zy_l (zy_l (zy_l (zy_l (zy_l (zy_l (zy_l (zy_r h)))))))))))) (zy_p (fun _ h => (zy_t (zy_l (zy_l (zy_l (zy_l (zy_l (zy_l (zy_r h))))))))))) (zy_p (fun _ h => (zy_t (zy_l (zy_l (zy_l (zy_l (zy_l (zy_r h)))))))))) (zy_p (fun _ h => (zy_t (zy_l (zy_l (zy_l (zy_l (zy_r h))))))))) (zy_p (fun _ h => (zy_t (zy_l (zy_l (zy_l (zy_r h)))))))) (zy_p (fun _ h => (zy_t (zy_l (zy_l (zy_r h))))))) (zy_p (fun _ h => (zy_t (zy_l (zy_r h)))))) (zy_p (fun _ h => (zy_t (zy_r h))))))) (by decide +kernel) | exact goodIn_r _ [5, 6, 7, 8, 9, 10, 11, 12, 13, 14, 15, 16, 17, 18, 4, 19, 20, 21, 22, 23, 24, 39, 40, 41, 42, 43, 44, 45, 46, 47, 48, 49, 50, 51, 52, 53, 54, 55, 56, 57, 58, 59, 60, 61, 62, 63, 64, 65, 66] (by decide +kernel) (by decide +kernel)
set_option maxRecDepth 20000 in
theorem gX5_take_X5_takeRow : GoodIn wsX5_take (wsV RX5 42 RX5 yX5_takeRow wsX5_takeRow) := by first | exact goodIn_app (goodIn_sub (show zy_S _ wsX5_take from (zy_c (zy_t (zy_l (zy_l (zy_l (zy_l (zy_l (zy_l (zy_l (zy_l (zy_l zy_h)))))))))) (zy_c (zy_t (zy_l (zy_l (zy_l (zy_l (zy_l (zy_l (zy_l (zy_l (zy_l (zy_t zy_h))))))))))) (zy_c (zy_t (zy_l (zy_l (zy_l (zy_l (zy_l (zy_l (zy_l (zy_l (zy_l (zy_t (zy_t zy_h)))))))))))) (zy_c (zy_t (zy_l (zy_l (zy_l (zy_l (zy_l (zy_l (zy_l (zy_l (zy_l (zy_t (zy_t (zy_t zy_h))))))))))))) zy_n))))) (by decide +kernel)) ggX5_take_X5_takeRow | exact goodIn_app (goodIn_of _ (by decide +kernel)) ggX5_take_X5_takeRow
set_option maxRecDepth 20000 in
theorem ggX5_take_X5_takeInPageOf : GoodIn wsX5_take wsX5_takeInPageOf := by first | exact goodIn_sub (show zy_S _ wsX5_take from (zy_c (zy_t (zy_l (zy_l (zy_l (zy_l (zy_l (zy_l (zy_l (zy_l (zy_r (zy_t (zy_t (zy_t zy_h))))))))))))) (zy_a (zy_a (zy_a (zy_a (zy_a (zy_a (zy_a (zy_a (zy_a (zy_c (zy_t (zy_l (zy_l (zy_l (zy_l (zy_l (zy_l (zy_l (zy_l (zy_l (zy_t (zy_t (zy_t (zy_t (zy_t zy_h))))))))))))))) (zy_c (zy_t (zy_l (zy_l (zy_l (zy_l (zy_l (zy_l (zy_l (zy_l (zy_l (zy_t (zy_t (zy_t (zy_t (zy_t (zy_t (zy_t (zy_t zy_h)))))))))))))))))) (zy_c (zy_t (zy_l (zy_l (zy_l (zy_l (zy_l (zy_l (zy_l (zy_l (zy_l (zy_t (zy_t (zy_t (zy_t (zy_t (zy_t zy_h)))))))))))))))) (zy_c (zy_t (zy_l (zy_l (zy_l (zy_l (zy_l (zy_l (zy_l (zy_l (zy_l (zy_t (zy_t (zy_t (zy_t (zy_t (zy_t (zy_t zy_h))))))))))))))))) (zy_c (zy_t (zy_l (zy_l (zy_l (zy_l (zy_l (zy_l (zy_l (zy_l (zy_l (zy_t (zy_t (zy_t (zy_t (zy_t (zy_t (zy_t (zy_t (zy_t (zy_t (zy_t (zy_t (zy_t (zy_t (zy_t (zy_t (zy_t (zy_t (zy_t (zy_t (zy_t (zy_t (zy_t zy_h))))))))))))))))))))))))))))))))) (zy_c (zy_t (zy_l (zy_l (zy_l (zy_l (zy_l (zy_l (zy_l (zy_l (zy_l (zy_t (zy_t (zy_t (zy_t (zy_t (zy_t (zy_t (zy_t (zy_t zy_h))))))))))))))))))) (zy_c (zy_t (zy_l (zy_l (zy_l (zy_l (zy_l (zy_l (zy_l (zy_l (zy_l (zy_t (zy_t (zy_t (zy_t (zy_t (zy_t (zy_t (zy_t (zy_t (zy_t zy_h)))))))))))))))))))) (zy_c (zy_t (zy_l (zy_l (zy_l (zy_l (zy_l (zy_l (zy_l (zy_l (zy_l (zy_t (zy_t (zy_t (zy_t (zy_t (zy_t (zy_t (zy_t (zy_t (zy_t (zy_t zy_h))))))))))))))))))))) (zy_c (zy_t (zy_l (zy_l (zy_l (zy_l (zy_l (zy_l (zy_l (zy_l (zy_l (zy_t (zy_t (zy_t (zy_t (zy_t (zy_t (zy_t (zy_t (zy_t (zy_t (zy_t (zy_t zy_h)))))))))))))))))))))) (zy_c (zy_t (zy_l (zy_l (zy_l (zy_l (zy_l (zy_l (zy_l (zy_l (zy_l (zy_t (zy_t (zy_t (zy_t (zy_t (zy_t (zy_t (zy_t (zy_t (zy_t (zy_t (zy_t (zy_t zy_h))))))))))))))))))))))) (zy_c (zy_t (zy_l (zy_l (zy_l (zy_l (zy_l (zy_l (zy_l (zy_l (zy_l (zy_t (zy_t (zy_t (zy_t (zy_t (zy_t (zy_t (zy_t (zy_t (zy_t (zy_t (zy_t (zy_t (zy_t zy_h)))))))))))))))))))))))) (zy_c (zy_t (zy_l (zy_l (zy_l (zy_l (zy_l (zy_l (zy_l (zy_l (zy_r (zy_t (zy_t (zy_t (zy_t zy_h)))))))))))))) (zy_c (zy_t (zy_l (zy_l (zy_l (zy_l (zy_l (zy_l (zy_l (zy_l (zy_r (zy_t (zy_t (zy_t (zy_t (zy_t zy_h))))))))))))))) (zy_c (zy_t (zy_l (zy_l (zy_l (zy_l (zy_l (zy_l (zy_l (zy_l (zy_r (zy_t (zy_t (zy_t (zy_t (zy_t (zy_t zy_h)))))))))))))))) (zy_c (zy_t (zy_l (zy_l (zy_l (zy_l (zy_l (zy_l (zy_l (zy_l (zy_l (zy_t (zy_t (zy_t zy_h))))))))))))) (zy_c (zy_t (zy_l (zy_l (zy_l (zy_l (zy_l (zy_l (zy_l (zy_l (zy_r (zy_t (zy_t (zy_t (zy_t (zy_t (zy_t (zy_t zy_h))))))))))))))))) (zy_c (zy_t (zy_l (zy_l (zy_l (zy_l (zy_l (zy_l (zy_l (zy_l (zy_l (zy_t (zy_t (zy_t (zy_t (zy_t (zy_t (zy_t (zy_t (zy_t (zy_t (zy_t (zy_t (zy_t (zy_t (zy_t (zy_t (zy_t (zy_t (zy_t zy_h))))))))))))))))))))))))))))) (zy_c (zy_t (zy_l (zy_l (zy_l (zy_l (zy_l (zy_l (zy_l (zy_l (zy_l (zy_t (zy_t (zy_t (zy_t (zy_t (zy_t (zy_t (zy_t (zy_t (zy_t (zy_t (zy_t (zy_t (zy_t (zy_t (zy_t (zy_t (zy_t (zy_t (zy_t zy_h)))))))))))))))))))))))))))))) (zy_c (zy_t (zy_l (zy_l (zy_l (zy_l (zy_l (zy_l (zy_l (zy_l (zy_l (zy_t (zy_t (zy_t (zy_t (zy_t (zy_t (zy_t (zy_t (zy_t (zy_t (zy_t (zy_t (zy_t (zy_t (zy_t (zy_t (zy_t (zy_t (zy_t (zy_t (zy_t zy_h))))))))))))))))))))))))))))))) (zy_c (zy_t (zy_l (zy_l (zy_l (zy_l (zy_l (zy_l (zy_l (zy_l (zy_l (zy_t (zy_t (zy_t (zy_t (zy_t (zy_t (zy_t (zy_t (zy_t (zy_t (zy_t (zy_t (zy_t (zy_t (zy_t (zy_t (zy_t (zy_t (zy_t (zy_t (zy_t (zy_t zy_h)))))))))))))))))))))))))))))))) (zy_c (zy_t (zy_l (zy_l (zy_l (zy_l (zy_l (zy_l (zy_l (zy_l (zy_r (zy_t (zy_t (zy_t (zy_t (zy_t (zy_t (zy_t (zy_t zy_h)))))))))))))))))) (zy_c (zy_t (zy_l (zy_l (zy_l (zy_l (zy_l (zy_l (zy_l (zy_l (zy_r (zy_t (zy_t (zy_t (zy_t (zy_t (zy_t (zy_t (zy_t (zy_t zy_h))))))))))))))))))) (zy_c (zy_t (zy_l (zy_l (zy_l (zy_l (zy_l (zy_l (zy_l (zy_l (zy_r (zy_t (zy_t (zy_t (zy_t (zy_t (zy_t (zy_t (zy_t (zy_t (zy_t zy_h)))))))))))))))))))) (zy_c (zy_t (zy_l (zy_l (zy_l (zy_l (zy_l (zy_l (zy_l (zy_l (zy_r (zy_t (zy_t (zy_t (zy_t (zy_t (zy_t (zy_t (zy_t (zy_t (zy_t (zy_t zy_h))))))))))))))))))))) zy_n)))))))))))))))))))))))) (zy_c (zy_t (zy_l (zy_l (zy_l (zy_l (zy_l (zy_l (zy_l (zy_l (zy_r (zy_t (zy_t (zy_t (zy_t (zy_t (zy_t (zy_t (zy_t (zy_t (zy_t (zy_t (zy_t zy_h)))))))))))))))))))))) (zy_c (zy_t (zy_l (zy_l (zy_l (zy_l (zy_l (zy_l (zy_l (zy_l (zy_r (zy_t (zy_t (zy_t (zy_t (zy_t (zy_t (zy_t (zy_t (zy_t (zy_t (zy_t (zy_t (zy_t zy_h))))))))))))))))))))))) zy_n))) (zy_p (fun _ h => (zy_t (zy_l (zy_l (zy_l (zy_l (zy_l (zy_l (zy_l (zy_r h)))))))))))) (zy_p (fun _ h => (zy_t (zy_l (zy_l (zy_l (zy_l (zy_l (zy_l (zy_r h))))))))))) (zy_p (fun _ h => (zy_t (zy_l (zy_l (zy_l (zy_l (zy_l (zy_r h)))))))))) (zy_p (fun _ h => (zy_t (zy_l (zy_l (zy_l (zy_l (zy_r h))))))))) (zy_p (fun _ h => (zy_t (zy_l (zy_l (zy_l (zy_r h)))))))) (zy_p (fun _ h => (zy_t (zy_l (zy_l (zy_r h))))))) (zy_p (fun _ h => (zy_t (zy_l (zy_r h)))))) (zy_p (fun _ h => (zy_t (zy_r h))))))) (by decide +kernel) | exact goodIn_r _ [28, 6, 9, 7, 8, 24, 10, 11, 12, 13, 14, 15, 29, 30, 31, 4, 32, 20, 21, 22, 23, 33, 34, 35, 36, 37, 38, 39, 40, 41, 42, 43, 44, 45, 46, 47, 48, 49, 50, 51, 52, 53, 54, 55, 56, 57, 58, 59, 60, 61, 62, 63, 64, 65, 66] (by decide +kernel) (by decide +kernel)
set_option maxRecDepth 20000 in
theorem gX5_take_X5_takeInPageOf : GoodIn wsX5_take (wsV RX5 46 RX5 yX5_takeInPageOf wsX5_takeInPageOf) := by first | exact goodIn_app (goodIn_sub (show zy_S _ wsX5_take from (zy_c (zy_t (zy_l (zy_l (zy_l (zy_l (zy_l (zy_l (zy_l (zy_l (zy_r zy_h)))))))))) (zy_c (zy_t (zy_l (zy_l (zy_l (zy_l (zy_l (zy_l (zy_l (zy_l (zy_r (zy_t zy_h))))))))))) (zy_c (zy_t (zy_l (zy_l (zy_l (zy_l (zy_l (zy_l (zy_l (zy_l (zy_r (zy_t (zy_t zy_h)))))))))))) (zy_c (zy_t (zy_l (zy_l (zy_l (zy_l (zy_l (zy_l (zy_l (zy_l (zy_l (zy_t (zy_t (zy_t zy_h))))))))))))) zy_n))))) (by decide +kernel)) ggX5_take_X5_takeInPageOf | exact goodIn_app (goodIn_of _ (by decide +kernel)) ggX5_take_X5_takeInPageOf
theorem dX5_take_0 : decode cX5_take 0 = .ok (.iload_n 1, 1) := by decide +kernel
theorem dX5_take_1 : decode cX5_take 1 = .ok (.bipush 32, 2) := by decide +kernel
theorem dX5_take_3 : decode cX5_take 3 = .ok (.if_icmp .le 13, 3) := by decide +kernel
theorem dX5_take_6 : decode cX5_take 6 = .ok (.aload_n 0, 1) := by decide +kernel
theorem dX5_take_7 : decode cX5_take 7 = .ok (.iload_n 1, 1) := by decide +kernel
theorem dX5_take_8 : decode cX5_take 8 = .ok (.bipush 32, 2) := by decide +kernel
theorem dX5_take_10 : decode cX5_take 10 = .ok (.idiv, 1) := by decide +kernel
theorem dX5_take_11 : decode cX5_take 11 = .ok (.iload_n 1, 1) := by decide +kernel
theorem dX5_take_12 : decode cX5_take 12 = .ok (.invokevirtual 42, 3) := by decide +kernel
theorem dX5_take_15 : decode cX5_take 15 = .ok (.ireturn, 1) := by decide +kernel
theorem dX5_take_16 : decode cX5_take 16 = .ok (.aload_n 0, 1) := by decide +kernel
theorem dX5_take_17 : decode cX5_take 17 = .ok (.iload_n 1, 1) := by decide +kernel
theorem dX5_take_18 : decode cX5_take 18 = .ok (.invokevirtual 46, 3) := by decide +kernel
theorem dX5_take_21 : decode cX5_take 21 = .ok (.istore_n 2, 1) := by decide +kernel
theorem dX5_take_22 : decode cX5_take 22 = .ok (.iload_n 2, 1) := by decide +kernel
theorem dX5_take_23 : decode cX5_take 23 = .ok (.iconst (-1), 1) := by decide +kernel
theorem dX5_take_24 : decode cX5_take 24 = .ok (.if_icmp .ne 12, 3) := by decide +kernel
theorem dX5_take_27 : decode cX5_take 27 = .ok (.aload_n 0, 1) := by decide +kernel
theorem dX5_take_28 : decode cX5_take 28 = .ok (.iconst 1, 1) := by decide +kernel
theorem dX5_take_29 : decode cX5_take 29 = .ok (.iload_n 1, 1) := by decide +kernel
theorem dX5_take_30 : decode cX5_take 30 = .ok (.invokevirtual 42, 3) := by decide +kernel
theorem dX5_take_33 : decode cX5_take 33 = .ok (.goto 4, 3) := by decide +kernel
theorem dX5_take_36 : decode cX5_take 36 = .ok (.iload_n 2, 1) := by decide +kernel
theorem dX5_take_37 : decode cX5_take 37 = .ok (.ireturn, 1) := by decide +kernel
set_option maxRecDepth 20000 in
theorem ggX5_takeInPageOf_X7_addLooked : GoodIn wsX5_takeInPageOf wsX7_addLooked := by first | exact goodIn_sub (show zy_S _ wsX5_takeInPageOf from (zy_c (zy_t (zy_l (zy_l (zy_l (zy_l (zy_l (zy_l (zy_l (zy_l (zy_l (zy_t (zy_t (zy_t (zy_t (zy_t (zy_t (zy_t (zy_t (zy_t zy_h))))))))))))))))))) (zy_a (zy_c (zy_t (zy_l (zy_l (zy_l (zy_l (zy_l (zy_l (zy_l (zy_l (zy_l (zy_t (zy_t (zy_t (zy_t (zy_t (zy_t (zy_t (zy_t (zy_t (zy_t zy_h)))))))))))))))))))) zy_n) (zy_p (fun _ h => (zy_t (zy_r h))))))) (by decide +kernel) | exact goodIn_r _ [10, 11, 45, 46, 47, 48, 49, 50, 51, 52, 53, 54] (by decide +kernel) (by decide +kernel)
set_option maxRecDepth 20000 in
theorem gX5_takeInPageOf_X7_addLooked : GoodIn wsX5_takeInPageOf (wsV RX5 49 RX7 yX7_addLooked wsX7_addLooked) := by first | exact goodIn_app (goodIn_sub (show zy_S _ wsX5_takeInPageOf from (zy_c (zy_t (zy_l (zy_l (zy_l (zy_l (zy_l (zy_l (zy_l (zy_l (zy_l (zy_t (zy_t (zy_t (zy_t (zy_t zy_h))))))))))))))) (zy_c (zy_t (zy_l (zy_l (zy_l (zy_l (zy_l (zy_l (zy_l (zy_l (zy_l (zy_t (zy_t (zy_t (zy_t (zy_t (zy_t zy_h)))))))))))))))) (zy_c (zy_t (zy_l (zy_l (zy_l (zy_l (zy_l (zy_l (zy_l (zy_l (zy_l (zy_t (zy_t (zy_t (zy_t (zy_t (zy_t (zy_t zy_h))))))))))))))))) (zy_c (zy_t (zy_l (zy_l (zy_l (zy_l (zy_l (zy_l (zy_l (zy_l (zy_l (zy_t (zy_t (zy_t (zy_t (zy_t (zy_t (zy_t (zy_t zy_h)))))))))))))))))) zy_n))))) (by decide +kernel)) ggX5_takeInPageOf_X7_addLooked | exact goodIn_app (goodIn_of _ (by decide +kernel)) ggX5_takeInPageOf_X7_addLooked
set_option maxRecDepth 20000 in
theorem ggX5_takeInPageOf_X5_freePlaceIn : GoodIn wsX5_takeInPageOf wsX5_freePlaceIn := by first | exact goodIn_sub (show zy_S _ wsX5_takeInPageOf from (zy_c (zy_t (zy_l (zy_l (zy_l (zy_l (zy_l (zy_l (zy_l (zy_l (zy_l (zy_t (zy_t (zy_t (zy_t (zy_t (zy_t (zy_t (zy_t (zy_t (zy_t (zy_t (zy_t (zy_t (zy_t (zy_t zy_h))))))))))))))))))))))))) (zy_a (zy_a (zy_a (zy_a (zy_a (zy_a (zy_a (zy_a (zy_c (zy_t (zy_l (zy_l (zy_l (zy_l (zy_l (zy_l (zy_l (zy_l (zy_l (zy_t (zy_t zy_h)))))))))))) (zy_c (zy_t (zy_l (zy_l (zy_l (zy_l (zy_l (zy_l (zy_l (zy_l (zy_l (zy_t (zy_t (zy_t zy_h))))))))))))) (zy_c (zy_t (zy_l (zy_l (zy_l (zy_l (zy_l (zy_l (zy_l (zy_l (zy_l (zy_t (zy_t (zy_t (zy_t (zy_t (zy_t (zy_t (zy_t (zy_t (zy_t (zy_t (zy_t (zy_t (zy_t (zy_t (zy_t zy_h)))))))))))))))))))))))))) (zy_c (zy_t (zy_l (zy_l (zy_l (zy_l (zy_l (zy_l (zy_l (zy_l (zy_l (zy_t (zy_t (zy_t (zy_t (zy_t (zy_t (zy_t (zy_t (zy_t (zy_t (zy_t (zy_t (zy_t (zy_t (zy_t (zy_t (zy_t zy_h))))))))))))))))))))))))))) (zy_c (zy_t (zy_l (zy_l (zy_l (zy_l (zy_l (zy_l (zy_l (zy_l (zy_l (zy_t (zy_t (zy_t (zy_t (zy_t (zy_t (zy_t (zy_t (zy_t (zy_t (zy_t (zy_t (zy_t (zy_t (zy_t (zy_t (zy_t (zy_t zy_h)))))))))))))))))))))))))))) (zy_c (zy_t (zy_l (zy_l (zy_l (zy_l (zy_l (zy_l (zy_l (zy_l (zy_l (zy_t (zy_t (zy_t (zy_t (zy_t (zy_t (zy_t (zy_t (zy_t (zy_t (zy_t (zy_t (zy_t (zy_t (zy_t (zy_t (zy_t (zy_t (zy_t zy_h))))))))))))))))))))))))))))) (zy_c (zy_t (zy_l (zy_l (zy_l (zy_l (zy_l (zy_l (zy_l (zy_l (zy_l (zy_t (zy_t (zy_t (zy_t (zy_t (zy_t (zy_t (zy_t (zy_t (zy_t (zy_t (zy_t (zy_t (zy_t (zy_t (zy_t (zy_t (zy_t (zy_t (zy_t zy_h)))))))))))))))))))))))))))))) (zy_c (zy_t (zy_l (zy_l (zy_l (zy_l (zy_l (zy_l (zy_l (zy_l (zy_l (zy_t (zy_t (zy_t (zy_t (zy_t (zy_t (zy_t (zy_t (zy_t (zy_t (zy_t (zy_t (zy_t (zy_t (zy_t (zy_t (zy_t (zy_t (zy_t (zy_t (zy_t zy_h))))))))))))))))))))))))))))))) (zy_c (zy_t (zy_l (zy_l (zy_l (zy_l (zy_l (zy_l (zy_l (zy_l (zy_l (zy_t (zy_t (zy_t (zy_t (zy_t (zy_t (zy_t (zy_t (zy_t (zy_t (zy_t (zy_t (zy_t (zy_t (zy_t (zy_t (zy_t (zy_t (zy_t (zy_t (zy_t (zy_t zy_h)))))))))))))))))))))))))))))))) (zy_c (zy_t (zy_l (zy_l (zy_l (zy_l (zy_l (zy_l (zy_l (zy_l (zy_l (zy_t (zy_t (zy_t (zy_t (zy_t (zy_t (zy_t (zy_t zy_h)))))))))))))))))) (zy_c (zy_t (zy_l (zy_l (zy_l (zy_l (zy_l (zy_l (zy_l (zy_l (zy_l (zy_t (zy_t (zy_t (zy_t (zy_t (zy_t (zy_t (zy_t (zy_t (zy_t (zy_t (zy_t (zy_t (zy_t (zy_t (zy_t (zy_t (zy_t (zy_t (zy_t (zy_t (zy_t (zy_t zy_h))))))))))))))))))))))))))))))))) (zy_c (zy_t (zy_l (zy_l (zy_l (zy_l (zy_l (zy_l (zy_l (zy_l (zy_r zy_h)))))))))) (zy_c (zy_t (zy_l (zy_l (zy_l (zy_l (zy_l (zy_l (zy_l (zy_l (zy_r (zy_t zy_h))))))))))) zy_n))))))))))))) (zy_p (fun _ h => (zy_t (zy_l (zy_l (zy_l (zy_l (zy_l (zy_l (zy_r h))))))))))) (zy_p (fun _ h => (zy_t (zy_l (zy_l (zy_l (zy_l (zy_l (zy_r h)))))))))) (zy_p (fun _ h => (zy_t (zy_l (zy_l (zy_l (zy_l (zy_r h))))))))) (zy_p (fun _ h => (zy_t (zy_l (zy_l (zy_l (zy_r h)))))))) (zy_p (fun _ h => (zy_t (zy_l (zy_l (zy_l (zy_l (zy_l (zy_l (zy_l (zy_r h)))))))))))) (zy_p (fun _ h => (zy_t (zy_l (zy_l (zy_r h))))))) (zy_p (fun _ h => (zy_t (zy_l (zy_r h)))))) (zy_p (fun _ h => (zy_t (zy_r h))))))) (by decide +kernel) | exact goodIn_r _ [16, 3, 4, 17, 18, 19, 20, 21, 22, 23, 9, 24, 25, 26, 31, 32, 33, 34, 35, 36, 37, 38, 39, 40, 27, 28, 29, 30, 41, 42, 43, 44, 45, 46, 47, 48, 49, 50, 51, 52, 53, 54] (by decide +kernel) (by decide +kernel)
set_option maxRecDepth 20000 in
theorem gX5_takeInPageOf_X5_freePlaceIn : GoodIn wsX5_takeInPageOf (wsV RX5 53 RX5 yX5_freePlaceIn wsX5_freePlaceIn) := by first | exact goodIn_app (goodIn_sub (show zy_S _ wsX5_takeInPageOf from (zy_c (zy_t (zy_l (zy_l (zy_l (zy_l (zy_l (zy_l (zy_l (zy_l (zy_l (zy_t (zy_t (zy_t (zy_t (zy_t (zy_t (zy_t (zy_t (zy_t (zy_t (zy_t zy_h))))))))))))))))))))) (zy_c (zy_t (zy_l (zy_l (zy_l (zy_l (zy_l (zy_l (zy_l (zy_l (zy_l (zy_t (zy_t (zy_t (zy_t (zy_t (zy_t (zy_t (zy_t (zy_t (zy_t (zy_t (zy_t zy_h)))))))))))))))))))))) (zy_c (zy_t (zy_l (zy_l (zy_l (zy_l (zy_l (zy_l (zy_l (zy_l (zy_l (zy_t (zy_t (zy_t (zy_t (zy_t (zy_t (zy_t (zy_t (zy_t (zy_t (zy_t (zy_t (zy_t zy_h))))))))))))))))))))))) (zy_c (zy_t (zy_l (zy_l (zy_l (zy_l (zy_l (zy_l (zy_l (zy_l (zy_l (zy_t (zy_t (zy_t (zy_t (zy_t (zy_t (zy_t (zy_t (zy_t (zy_t (zy_t (zy_t (zy_t (zy_t zy_h)))))))))))))))))))))))) zy_n))))) (by decide +kernel)) ggX5_takeInPageOf_X5_freePlaceIn | exact goodIn_app (goodIn_of _ (by decide +kernel)) ggX5_takeInPageOf_X5_freePlaceIn
theorem dX5_takeInPageOf_0 : decode cX5_takeInPageOf 0 = .ok (.iconst 0, 1) := by decide +kernel
theorem dX5_takeInPageOf_1 : decode cX5_takeInPageOf 1 = .ok (.istore_n 2, 1) := by decide +kernel
theorem dX5_takeInPageOf_2 : decode cX5_takeInPageOf 2 = .ok (.iload_n 2, 1) := by decide +kernel
theorem dX5_takeInPageOf_3 : decode cX5_takeInPageOf 3 = .ok (.aload_n 0, 1) := by decide +kernel
theorem dX5_takeInPageOf_4 : decode cX5_takeInPageOf 4 = .ok (.getfield 18, 3) := by decide +kernel
theorem dX5_takeInPageOf_7 : decode cX5_takeInPageOf 7 = .ok (.if_icmp .ge 51, 3) := by decide +kernel
theorem dX5_takeInPageOf_10 : decode cX5_takeInPageOf 10 = .ok (.aload_n 0, 1) := by decide +kernel
theorem dX5_takeInPageOf_11 : decode cX5_takeInPageOf 11 = .ok (.getfield 11, 3) := by decide +kernel
theorem dX5_takeInPageOf_14 : decode cX5_takeInPageOf 14 = .ok (.iload_n 2, 1) := by decide +kernel
theorem dX5_takeInPageOf_15 : decode cX5_takeInPageOf 15 = .ok (.iaload, 1) := by decide +kernel
theorem dX5_takeInPageOf_16 : decode cX5_takeInPageOf 16 = .ok (.iload_n 1, 1) := by decide +kernel
theorem dX5_takeInPageOf_17 : decode cX5_takeInPageOf 17 = .ok (.if_icmp .ne 35, 3) := by decide +kernel
theorem dX5_takeInPageOf_20 : decode cX5_takeInPageOf 20 = .ok (.aload_n 0, 1) := by decide +kernel
theorem dX5_takeInPageOf_21 : decode cX5_takeInPageOf 21 = .ok (.getfield 22, 3) := by decide +kernel
theorem dX5_takeInPageOf_24 : decode cX5_takeInPageOf 24 = .ok (.iconst 1, 1) := by decide +kernel
theorem dX5_takeInPageOf_25 : decode cX5_takeInPageOf 25 = .ok (.invokevirtual 49, 3) := by decide +kernel
theorem dX5_takeInPageOf_28 : decode cX5_takeInPageOf 28 = .ok (.aload_n 0, 1) := by decide +kernel
theorem dX5_takeInPageOf_29 : decode cX5_takeInPageOf 29 = .ok (.iload_n 2, 1) := by decide +kernel
theorem dX5_takeInPageOf_30 : decode cX5_takeInPageOf 30 = .ok (.iload_n 1, 1) := by decide +kernel
theorem dX5_takeInPageOf_31 : decode cX5_takeInPageOf 31 = .ok (.invokevirtual 53, 3) := by decide +kernel
theorem dX5_takeInPageOf_34 : decode cX5_takeInPageOf 34 = .ok (.istore_n 3, 1) := by decide +kernel
theorem dX5_takeInPageOf_35 : decode cX5_takeInPageOf 35 = .ok (.iload_n 3, 1) := by decide +kernel
theorem dX5_takeInPageOf_36 : decode cX5_takeInPageOf 36 = .ok (.iconst (-1), 1) := by decide +kernel
theorem dX5_takeInPageOf_37 : decode cX5_takeInPageOf 37 = .ok (.if_icmp .eq 15, 3) := by decide +kernel
theorem dX5_takeInPageOf_40 : decode cX5_takeInPageOf 40 = .ok (.aload_n 0, 1) := by decide +kernel
theorem dX5_takeInPageOf_41 : decode cX5_takeInPageOf 41 = .ok (.getfield 15, 3) := by decide +kernel
theorem dX5_takeInPageOf_44 : decode cX5_takeInPageOf 44 = .ok (.iload_n 2, 1) := by decide +kernel
theorem dX5_takeInPageOf_45 : decode cX5_takeInPageOf 45 = .ok (.dup2, 1) := by decide +kernel
theorem dX5_takeInPageOf_46 : decode cX5_takeInPageOf 46 = .ok (.iaload, 1) := by decide +kernel
theorem dX5_takeInPageOf_47 : decode cX5_takeInPageOf 47 = .ok (.iconst 1, 1) := by decide +kernel
theorem dX5_takeInPageOf_48 : decode cX5_takeInPageOf 48 = .ok (.iadd, 1) := by decide +kernel
theorem dX5_takeInPageOf_49 : decode cX5_takeInPageOf 49 = .ok (.iastore, 1) := by decide +kernel
theorem dX5_takeInPageOf_50 : decode cX5_takeInPageOf 50 = .ok (.iload_n 3, 1) := by decide +kernel
theorem dX5_takeInPageOf_51 : decode cX5_takeInPageOf 51 = .ok (.ireturn, 1) := by decide +kernel
theorem dX5_takeInPageOf_52 : decode cX5_takeInPageOf 52 = .ok (.iinc 2 1, 3) := by decide +kernel
theorem dX5_takeInPageOf_55 : decode cX5_takeInPageOf 55 = .ok (.goto (-53), 3) := by decide +kernel
theorem dX5_takeInPageOf_58 : decode cX5_takeInPageOf 58 = .ok (.iconst (-1), 1) := by decide +kernel
theorem dX5_takeInPageOf_59 : decode cX5_takeInPageOf 59 = .ok (.ireturn, 1) := by decide +kernel
set_option maxRecDepth 20000 in
theorem ggX5_freePlaceIn_X7_isFree : GoodIn wsX5_freePlaceIn wsX7_isFree := by first | exact goodIn_sub (show zy_S _ wsX5_freePlaceIn from (zy_c (zy_t (zy_l (zy_l (zy_l (zy_l (zy_l (zy_l (zy_l (zy_l (zy_t (zy_t (zy_t (zy_t (zy_t (zy_t (zy_t (zy_t (zy_t (zy_t zy_h))))))))))))))))))) (zy_a (zy_c (zy_t (zy_l (zy_l (zy_l (zy_l (zy_l (zy_l (zy_l (zy_l (zy_t (zy_t (zy_t (zy_t (zy_t (zy_t (zy_t (zy_t (zy_t (zy_t (zy_t zy_h)))))))))))))))))))) (zy_c (zy_t (zy_l (zy_l (zy_l (zy_l (zy_l (zy_l (zy_l (zy_l (zy_t (zy_t (zy_t (zy_t (zy_t (zy_t (zy_t (zy_t (zy_t (zy_t (zy_t (zy_t zy_h))))))))))))))))))))) zy_n)) (zy_p (fun _ h => (zy_t (zy_r h))))))) (by decide +kernel) | exact goodIn_r _ [11, 12, 13, 32, 33, 34, 35, 36, 37, 38, 39, 40, 41] (by decide +kernel) (by decide +kernel)
set_option maxRecDepth 20000 in
theorem gX5_freePlaceIn_X7_isFree : GoodIn wsX5_freePlaceIn (wsV RX5 56 RX7 yX7_isFree wsX7_isFree) := by first | exact goodIn_app (goodIn_sub (show zy_S _ wsX5_freePlaceIn from (zy_c (zy_t (zy_l (zy_l (zy_l (zy_l (zy_l (zy_l (zy_l (zy_l (zy_t (zy_t (zy_t (zy_t (zy_t (zy_t zy_h))))))))))))))) (zy_c (zy_t (zy_l (zy_l (zy_l (zy_l (zy_l (zy_l (zy_l (zy_l (zy_t (zy_t (zy_t (zy_t (zy_t (zy_t (zy_t zy_h)))))))))))))))) (zy_c (zy_t (zy_l (zy_l (zy_l (zy_l (zy_l (zy_l (zy_l (zy_l (zy_t (zy_t (zy_t (zy_t (zy_t (zy_t (zy_t (zy_t zy_h))))))))))))))))) (zy_c (zy_t (zy_l (zy_l (zy_l (zy_l (zy_l (zy_l (zy_l (zy_l (zy_t (zy_t (zy_t (zy_t (zy_t (zy_t (zy_t (zy_t (zy_t zy_h)))))))))))))))))) zy_n))))) (by decide +kernel)) ggX5_freePlaceIn_X7_isFree | exact goodIn_app (goodIn_of _ (by decide +kernel)) ggX5_freePlaceIn_X7_isFree
theorem dX5_freePlaceIn_0 : decode cX5_freePlaceIn 0 = .ok (.iload_n 1, 1) := by decide +kernel
theorem dX5_freePlaceIn_1 : decode cX5_freePlaceIn 1 = .ok (.iconst 1, 1) := by decide +kernel
theorem dX5_freePlaceIn_2 : decode cX5_freePlaceIn 2 = .ok (.iadd, 1) := by decide +kernel
theorem dX5_freePlaceIn_3 : decode cX5_freePlaceIn 3 = .ok (.bipush 32, 2) := by decide +kernel
theorem dX5_freePlaceIn_5 : decode cX5_freePlaceIn 5 = .ok (.imul, 1) := by decide +kernel
theorem dX5_freePlaceIn_6 : decode cX5_freePlaceIn 6 = .ok (.istore_n 3, 1) := by decide +kernel
theorem dX5_freePlaceIn_7 : decode cX5_freePlaceIn 7 = .ok (.iload_n 1, 1) := by decide +kernel
theorem dX5_freePlaceIn_8 : decode cX5_freePlaceIn 8 = .ok (.bipush 32, 2) := by decide +kernel
theorem dX5_freePlaceIn_10 : decode cX5_freePlaceIn 10 = .ok (.imul, 1) := by decide +kernel
theorem dX5_freePlaceIn_11 : decode cX5_freePlaceIn 11 = .ok (.istore 4, 2) := by decide +kernel
theorem dX5_freePlaceIn_13 : decode cX5_freePlaceIn 13 = .ok (.iload 4, 2) := by decide +kernel
theorem dX5_freePlaceIn_15 : decode cX5_freePlaceIn 15 = .ok (.iload_n 3, 1) := by decide +kernel
theorem dX5_freePlaceIn_16 : decode cX5_freePlaceIn 16 = .ok (.if_icmp .ge 31, 3) := by decide +kernel
theorem dX5_freePlaceIn_19 : decode cX5_freePlaceIn 19 = .ok (.aload_n 0, 1) := by decide +kernel
theorem dX5_freePlaceIn_20 : decode cX5_freePlaceIn 20 = .ok (.getfield 22, 3) := by decide +kernel
theorem dX5_freePlaceIn_23 : decode cX5_freePlaceIn 23 = .ok (.iload 4, 2) := by decide +kernel
theorem dX5_freePlaceIn_25 : decode cX5_freePlaceIn 25 = .ok (.invokevirtual 56, 3) := by decide +kernel
theorem dX5_freePlaceIn_28 : decode cX5_freePlaceIn 28 = .ok (.ifCond .eq 6, 3) := by decide +kernel
theorem dX5_freePlaceIn_31 : decode cX5_freePlaceIn 31 = .ok (.iload 4, 2) := by decide +kernel
theorem dX5_freePlaceIn_33 : decode cX5_freePlaceIn 33 = .ok (.ireturn, 1) := by decide +kernel
theorem dX5_freePlaceIn_34 : decode cX5_freePlaceIn 34 = .ok (.iload 4, 2) := by decide +kernel
theorem dX5_freePlaceIn_36 : decode cX5_freePlaceIn 36 = .ok (.iload_n 2, 1) := by decide +kernel
theorem dX5_freePlaceIn_37 : decode cX5_freePlaceIn 37 = .ok (.iconst 1, 1) := by decide +kernel
theorem dX5_freePlaceIn_38 : decode cX5_freePlaceIn 38 = .ok (.invokestatic 60, 3) := by decide +kernel
theorem dX5_freePlaceIn_41 : decode cX5_freePlaceIn 41 = .ok (.iadd, 1) := by decide +kernel
theorem dX5_freePlaceIn_42 : decode cX5_freePlaceIn 42 = .ok (.istore 4, 2) := by decide +kernel
theorem dX5_freePlaceIn_44 : decode cX5_freePlaceIn 44 = .ok (.goto (-31), 3) := by decide +kernel
theorem dX5_freePlaceIn_47 : decode cX5_freePlaceIn 47 = .ok (.iconst (-1), 1) := by decide +kernel
theorem dX5_freePlaceIn_48 : decode cX5_freePlaceIn 48 = .ok (.ireturn, 1) := by decide +kernel
set_option maxRecDepth 20000 in
theorem ggX5_takeRow_X7_addLooked : GoodIn wsX5_takeRow wsX7_addLooked := by first | exact goodIn_sub (show zy_S _ wsX5_takeRow from (zy_c (zy_t (zy_l (zy_l (zy_l (zy_l (zy_l (zy_l (zy_l (zy_l (zy_t (zy_t (zy_t (zy_t (zy_t (zy_t (zy_t (zy_t zy_h))))))))))))))))) (zy_a (zy_c (zy_t (zy_l (zy_l (zy_l (zy_l (zy_l (zy_l (zy_l (zy_l (zy_t (zy_t (zy_t (zy_t (zy_t (zy_t (zy_t (zy_t (zy_t zy_h)))))))))))))))))) zy_n) (zy_p (fun _ h => (zy_t (zy_r h))))))) (by decide +kernel) | exact goodIn_r _ [9, 10, 39, 40, 41, 42, 43, 44, 45, 46, 47, 48] (by decide +kernel) (by decide +kernel)
set_option maxRecDepth 20000 in
theorem gX5_takeRow_X7_addLooked : GoodIn wsX5_takeRow (wsV RX5 49 RX7 yX7_addLooked wsX7_addLooked) := by first | exact goodIn_app (goodIn_sub (show zy_S _ wsX5_takeRow from (zy_c (zy_t (zy_l (zy_l (zy_l (zy_l (zy_l (zy_l (zy_l (zy_l (zy_t (zy_t (zy_t (zy_t zy_h))))))))))))) (zy_c (zy_t (zy_l (zy_l (zy_l (zy_l (zy_l (zy_l (zy_l (zy_l (zy_t (zy_t (zy_t (zy_t (zy_t zy_h)))))))))))))) (zy_c (zy_t (zy_l (zy_l (zy_l (zy_l (zy_l (zy_l (zy_l (zy_l (zy_t (zy_t (zy_t (zy_t (zy_t (zy_t zy_h))))))))))))))) (zy_c (zy_t (zy_l (zy_l (zy_l (zy_l (zy_l (zy_l (zy_l (zy_l (zy_t (zy_t (zy_t (zy_t (zy_t (zy_t (zy_t zy_h)))))))))))))))) zy_n))))) (by decide +kernel)) ggX5_takeRow_X7_addLooked | exact goodIn_app (goodIn_of _ (by decide +kernel)) ggX5_takeRow_X7_addLooked
set_option maxRecDepth 20000 in
theorem ggX5_takeRow_X5_setPages : GoodIn wsX5_takeRow wsX5_setPages := by first | exact goodIn_sub (show zy_S _ wsX5_takeRow from (zy_c (zy_t (zy_l (zy_l (zy_l (zy_l (zy_l (zy_l (zy_l (zy_l (zy_t (zy_t (zy_t (zy_t (zy_t (zy_t (zy_t (zy_t (zy_t (zy_t (zy_t (zy_t (zy_t (zy_t zy_h))))))))))))))))))))))) (zy_a (zy_c (zy_t (zy_l (zy_l (zy_l (zy_l (zy_l (zy_l (zy_l (zy_l (zy_t (zy_t (zy_t (zy_t (zy_t (zy_t (zy_t (zy_t (zy_t (zy_t (zy_t (zy_t (zy_t (zy_t (zy_t zy_h)))))))))))))))))))))))) (zy_c (zy_t (zy_l (zy_l (zy_l (zy_l (zy_l (zy_l (zy_l (zy_l (zy_t (zy_t (zy_t (zy_t (zy_t (zy_t (zy_t (zy_t (zy_t (zy_t (zy_t (zy_t (zy_t (zy_t (zy_t (zy_t zy_h))))))))))))))))))))))))) (zy_c (zy_t (zy_l (zy_l (zy_l (zy_l (zy_l (zy_l (zy_l (zy_l (zy_t (zy_t (zy_t (zy_t (zy_t (zy_t (zy_t (zy_t (zy_t (zy_t (zy_t (zy_t (zy_t (zy_t (zy_t (zy_t (zy_t zy_h)))))))))))))))))))))))))) (zy_c (zy_t (zy_l (zy_l (zy_l (zy_l (zy_l (zy_l (zy_l (zy_l (zy_t (zy_t (zy_t (zy_t (zy_t (zy_t (zy_t (zy_t (zy_t (zy_t (zy_t (zy_t (zy_t (zy_t (zy_t (zy_t (zy_t (zy_t zy_h))))))))))))))))))))))))))) (zy_c (zy_t (zy_l (zy_l (zy_l (zy_l (zy_l (zy_l (zy_l (zy_l zy_h))))))))) (zy_c (zy_t (zy_l (zy_l (zy_l (zy_l (zy_l (zy_l (zy_l (zy_l (zy_t (zy_t (zy_t zy_h)))))))))))) (zy_c (zy_t (zy_l (zy_l (zy_l (zy_l (zy_l (zy_l (zy_l (zy_l (zy_t (zy_t (zy_t (zy_t (zy_t (zy_t (zy_t (zy_t (zy_t (zy_t (zy_t (zy_t (zy_t (zy_t (zy_t (zy_t (zy_t (zy_t (zy_t zy_h)))))))))))))))))))))))))))) zy_n))))))) (zy_p (fun _ h => (zy_t (zy_l (zy_l (zy_l (zy_l (zy_l (zy_l (zy_l (zy_r h)))))))))))))) (by decide +kernel) | exact goodIn_r _ [15, 16, 17, 18, 19, 1, 4, 20, 21, 22, 23, 24] (by decide +kernel) (by decide +kernel)
set_option maxRecDepth 20000 in
theorem gX5_takeRow_X5_setPages : GoodIn wsX5_takeRow (wsV RX5 65 RX5 yX5_setPages wsX5_setPages) := by first | exact goodIn_app (goodIn_sub (show zy_S _ wsX5_takeRow from (zy_c (zy_t (zy_l (zy_l (zy_l (zy_l (zy_l (zy_l (zy_l (zy_l (zy_t (zy_t (zy_t (zy_t (zy_t (zy_t (zy_t (zy_t (zy_t (zy_t zy_h))))))))))))))))))) (zy_c (zy_t (zy_l (zy_l (zy_l (zy_l (zy_l (zy_l (zy_l (zy_l (zy_t (zy_t (zy_t (zy_t (zy_t (zy_t (zy_t (zy_t (zy_t (zy_t (zy_t zy_h)))))))))))))))))))) (zy_c (zy_t (zy_l (zy_l (zy_l (zy_l (zy_l (zy_l (zy_l (zy_l (zy_t (zy_t (zy_t (zy_t (zy_t (zy_t (zy_t (zy_t (zy_t (zy_t (zy_t (zy_t zy_h))))))))))))))))))))) (zy_c (zy_t (zy_l (zy_l (zy_l (zy_l (zy_l (zy_l (zy_l (zy_l (zy_t (zy_t (zy_t (zy_t (zy_t (zy_t (zy_t (zy_t (zy_t (zy_t (zy_t (zy_t (zy_t zy_h)))))))))))))))))))))) zy_n))))) (by decide +kernel)) ggX5_takeRow_X5_setPages | exact goodIn_app (goodIn_of _ (by decide +kernel)) ggX5_takeRow_X5_setPages
theorem dX5_takeRow_0 : decode cX5_takeRow 0 = .ok (.iconst 0, 1) := by decide +kernel
theorem dX5_takeRow_1 : decode cX5_takeRow 1 = .ok (.istore_n 3, 1) := by decide +kernel
theorem dX5_takeRow_2 : decode cX5_takeRow 2 = .ok (.iconst 0, 1) := by decide +kernel
theorem dX5_takeRow_3 : decode cX5_takeRow 3 = .ok (.istore 4, 2) := by decide +kernel
theorem dX5_takeRow_5 : decode cX5_takeRow 5 = .ok (.iload 4, 2) := by decide +kernel
theorem dX5_takeRow_7 : decode cX5_takeRow 7 = .ok (.aload_n 0, 1) := by decide +kernel
theorem dX5_takeRow_8 : decode cX5_takeRow 8 = .ok (.getfield 18, 3) := by decide +kernel
theorem dX5_takeRow_11 : decode cX5_takeRow 11 = .ok (.if_icmp .ge 62, 3) := by decide +kernel
theorem dX5_takeRow_14 : decode cX5_takeRow 14 = .ok (.aload_n 0, 1) := by decide +kernel
theorem dX5_takeRow_15 : decode cX5_takeRow 15 = .ok (.getfield 22, 3) := by decide +kernel
theorem dX5_takeRow_18 : decode cX5_takeRow 18 = .ok (.iconst 1, 1) := by decide +kernel
theorem dX5_takeRow_19 : decode cX5_takeRow 19 = .ok (.invokevirtual 49, 3) := by decide +kernel
theorem dX5_takeRow_22 : decode cX5_takeRow 22 = .ok (.aload_n 0, 1) := by decide +kernel
theorem dX5_takeRow_23 : decode cX5_takeRow 23 = .ok (.getfield 11, 3) := by decide +kernel
theorem dX5_takeRow_26 : decode cX5_takeRow 26 = .ok (.iload 4, 2) := by decide +kernel
theorem dX5_takeRow_28 : decode cX5_takeRow 28 = .ok (.iaload, 1) := by decide +kernel
theorem dX5_takeRow_29 : decode cX5_takeRow 29 = .ok (.ifCond .ne 9, 3) := by decide +kernel
theorem dX5_takeRow_32 : decode cX5_takeRow 32 = .ok (.iload_n 3, 1) := by decide +kernel
theorem dX5_takeRow_33 : decode cX5_takeRow 33 = .ok (.iconst 1, 1) := by decide +kernel
theorem dX5_takeRow_34 : decode cX5_takeRow 34 = .ok (.iadd, 1) := by decide +kernel
theorem dX5_takeRow_35 : decode cX5_takeRow 35 = .ok (.goto 4, 3) := by decide +kernel
theorem dX5_takeRow_38 : decode cX5_takeRow 38 = .ok (.iconst 0, 1) := by decide +kernel
theorem dX5_takeRow_39 : decode cX5_takeRow 39 = .ok (.istore_n 3, 1) := by decide +kernel
theorem dX5_takeRow_40 : decode cX5_takeRow 40 = .ok (.iload_n 3, 1) := by decide +kernel
theorem dX5_takeRow_41 : decode cX5_takeRow 41 = .ok (.iload_n 1, 1) := by decide +kernel
theorem dX5_takeRow_42 : decode cX5_takeRow 42 = .ok (.if_icmp .ne 25, 3) := by decide +kernel
theorem dX5_takeRow_45 : decode cX5_takeRow 45 = .ok (.iload 4, 2) := by decide +kernel
theorem dX5_takeRow_47 : decode cX5_takeRow 47 = .ok (.iload_n 1, 1) := by decide +kernel
theorem dX5_takeRow_48 : decode cX5_takeRow 48 = .ok (.isub, 1) := by decide +kernel
theorem dX5_takeRow_49 : decode cX5_takeRow 49 = .ok (.iconst 1, 1) := by decide +kernel
theorem dX5_takeRow_50 : decode cX5_takeRow 50 = .ok (.iadd, 1) := by decide +kernel
theorem dX5_takeRow_51 : decode cX5_takeRow 51 = .ok (.istore 5, 2) := by decide +kernel
theorem dX5_takeRow_53 : decode cX5_takeRow 53 = .ok (.aload_n 0, 1) := by decide +kernel
theorem dX5_takeRow_54 : decode cX5_takeRow 54 = .ok (.iload 5, 2) := by decide +kernel
theorem dX5_takeRow_56 : decode cX5_takeRow 56 = .ok (.iload_n 1, 1) := by decide +kernel
theorem dX5_takeRow_57 : decode cX5_takeRow 57 = .ok (.iload_n 2, 1) := by decide +kernel
theorem dX5_takeRow_58 : decode cX5_takeRow 58 = .ok (.invokevirtual 65, 3) := by decide +kernel
theorem dX5_takeRow_61 : decode cX5_takeRow 61 = .ok (.iload 5, 2) := by decide +kernel
theorem dX5_takeRow_63 : decode cX5_takeRow 63 = .ok (.bipush 32, 2) := by decide +kernel
theorem dX5_takeRow_65 : decode cX5_takeRow 65 = .ok (.imul, 1) := by decide +kernel
theorem dX5_takeRow_66 : decode cX5_takeRow 66 = .ok (.ireturn, 1) := by decide +kernel
theorem dX5_takeRow_67 : decode cX5_takeRow 67 = .ok (.iinc 4 1, 3) := by decide +kernel
theorem dX5_takeRow_70 : decode cX5_takeRow 70 = .ok (.goto (-65), 3) := by decide +kernel
theorem dX5_takeRow_73 : decode cX5_takeRow 73 = .ok (.iconst (-1), 1) := by decide +kernel
theorem dX5_takeRow_74 : decode cX5_takeRow 74 = .ok (.ireturn, 1) := by decide +kernel
theorem dX5_setPages_0 : decode cX5_setPages 0 = .ok (.iload_n 1, 1) := by decide +kernel
theorem dX5_setPages_1 : decode cX5_setPages 1 = .ok (.iconst 0, 1) := by decide +kernel
theorem dX5_setPages_2 : decode cX5_setPages 2 = .ok (.invokestatic 60, 3) := by decide +kernel
theorem dX5_setPages_5 : decode cX5_setPages 5 = .ok (.istore 4, 2) := by decide +kernel
theorem dX5_setPages_7 : decode cX5_setPages 7 = .ok (.iload 4, 2) := by decide +kernel
theorem dX5_setPages_9 : decode cX5_setPages 9 = .ok (.iload_n 1, 1) := by decide +kernel
theorem dX5_setPages_10 : decode cX5_setPages 10 = .ok (.iload_n 2, 1) := by decide +kernel
theorem dX5_setPages_11 : decode cX5_setPages 11 = .ok (.iadd, 1) := by decide +kernel
theorem dX5_setPages_12 : decode cX5_setPages 12 = .ok (.if_icmp .ge 42, 3) := by decide +kernel
theorem dX5_setPages_15 : decode cX5_setPages 15 = .ok (.iload 4, 2) := by decide +kernel
theorem dX5_setPages_17 : decode cX5_setPages 17 = .ok (.aload_n 0, 1) := by decide +kernel
theorem dX5_setPages_18 : decode cX5_setPages 18 = .ok (.getfield 18, 3) := by decide +kernel
theorem dX5_setPages_21 : decode cX5_setPages 21 = .ok (.if_icmp .ge 33, 3) := by decide +kernel
theorem dX5_setPages_24 : decode cX5_setPages 24 = .ok (.aload_n 0, 1) := by decide +kernel
theorem dX5_setPages_25 : decode cX5_setPages 25 = .ok (.getfield 11, 3) := by decide +kernel
theorem dX5_setPages_28 : decode cX5_setPages 28 = .ok (.iload 4, 2) := by decide +kernel
theorem dX5_setPages_30 : decode cX5_setPages 30 = .ok (.iload_n 3, 1) := by decide +kernel
theorem dX5_setPages_31 : decode cX5_setPages 31 = .ok (.iastore, 1) := by decide +kernel
theorem dX5_setPages_32 : decode cX5_setPages 32 = .ok (.aload_n 0, 1) := by decide +kernel
theorem dX5_setPages_33 : decode cX5_setPages 33 = .ok (.getfield 15, 3) := by decide +kernel
theorem dX5_setPages_36 : decode cX5_setPages 36 = .ok (.iload 4, 2) := by decide +kernel
theorem dX5_setPages_38 : decode cX5_setPages 38 = .ok (.iload_n 3, 1) := by decide +kernel
theorem dX5_setPages_39 : decode cX5_setPages 39 = .ok (.ifCond .ne 7, 3) := by decide +kernel
theorem dX5_setPages_42 : decode cX5_setPages 42 = .ok (.iconst 0, 1) := by decide +kernel
theorem dX5_setPages_43 : decode cX5_setPages 43 = .ok (.goto 4, 3) := by decide +kernel
theorem dX5_setPages_46 : decode cX5_setPages 46 = .ok (.iconst 1, 1) := by decide +kernel
theorem dX5_setPages_47 : decode cX5_setPages 47 = .ok (.iastore, 1) := by decide +kernel
theorem dX5_setPages_48 : decode cX5_setPages 48 = .ok (.iinc 4 1, 3) := by decide +kernel
theorem dX5_setPages_51 : decode cX5_setPages 51 = .ok (.goto (-44), 3) := by decide +kernel
theorem dX5_setPages_54 : decode cX5_setPages 54 = .ok (.return_, 1) := by decide +kernel
set_option maxRecDepth 20000 in
theorem ggX5_takeBack_X5_setPages : GoodIn wsX5_takeBack wsX5_setPages := by first | exact goodIn_sub (show zy_S _ wsX5_takeBack from (zy_c (zy_t (zy_l (zy_t (zy_t (zy_t (zy_t (zy_t (zy_t zy_h)))))))) (zy_a (zy_c (zy_t (zy_l (zy_t (zy_t (zy_t (zy_t (zy_t (zy_t (zy_t zy_h))))))))) (zy_c (zy_t (zy_l (zy_t (zy_t (zy_t (zy_t (zy_t (zy_t (zy_t (zy_t zy_h)))))))))) (zy_c (zy_t (zy_l (zy_t (zy_t (zy_t (zy_t (zy_t (zy_t (zy_t (zy_t (zy_t zy_h))))))))))) (zy_c (zy_t (zy_l (zy_t (zy_t (zy_t (zy_t (zy_t (zy_t (zy_t (zy_t (zy_t (zy_t zy_h)))))))))))) (zy_c (zy_t (zy_l zy_h)) (zy_c (zy_t (zy_l (zy_t (zy_t (zy_t (zy_t (zy_t (zy_t (zy_t (zy_t (zy_t (zy_t (zy_t zy_h))))))))))))) (zy_c (zy_t (zy_l (zy_t zy_h))) zy_n))))))) (zy_p (fun _ h => (zy_t (zy_r h))))))) (by decide +kernel) | exact goodIn_r _ [7, 8, 9, 10, 11, 1, 12, 2, 13, 14, 15, 16] (by decide +kernel) (by decide +kernel)
set_option maxRecDepth 20000 in
theorem gX5_takeBack_X5_setPages : GoodIn wsX5_takeBack (wsV RX5 65 RX5 yX5_setPages wsX5_setPages) := by first | exact goodIn_app (goodIn_sub (show zy_S _ wsX5_takeBack from (zy_c (zy_t (zy_l (zy_t (zy_t zy_h)))) (zy_c (zy_t (zy_l (zy_t (zy_t (zy_t zy_h))))) (zy_c (zy_t (zy_l (zy_t (zy_t (zy_t (zy_t zy_h)))))) (zy_c (zy_t (zy_l (zy_t (zy_t (zy_t (zy_t (zy_t zy_h))))))) zy_n))))) (by decide +kernel)) ggX5_takeBack_X5_setPages | exact goodIn_app (goodIn_of _ (by decide +kernel)) ggX5_takeBack_X5_setPages
theorem dX5_takeBack_0 : decode cX5_takeBack 0 = .ok (.iload_n 1, 1) := by decide +kernel
theorem dX5_takeBack_1 : decode cX5_takeBack 1 = .ok (.bipush 32, 2) := by decide +kernel
theorem dX5_takeBack_3 : decode cX5_takeBack 3 = .ok (.idiv, 1) := by decide +kernel
theorem dX5_takeBack_4 : decode cX5_takeBack 4 = .ok (.istore_n 3, 1) := by decide +kernel
theorem dX5_takeBack_5 : decode cX5_takeBack 5 = .ok (.iload_n 3, 1) := by decide +kernel
theorem dX5_takeBack_6 : decode cX5_takeBack 6 = .ok (.ifCond .lt 11, 3) := by decide +kernel
theorem dX5_takeBack_9 : decode cX5_takeBack 9 = .ok (.iload_n 3, 1) := by decide +kernel
theorem dX5_takeBack_10 : decode cX5_takeBack 10 = .ok (.aload_n 0, 1) := by decide +kernel
theorem dX5_takeBack_11 : decode cX5_takeBack 11 = .ok (.getfield 18, 3) := by decide +kernel
theorem dX5_takeBack_14 : decode cX5_takeBack 14 = .ok (.if_icmp .lt 4, 3) := by decide +kernel
theorem dX5_takeBack_17 : decode cX5_takeBack 17 = .ok (.return_, 1) := by decide +kernel
theorem dX5_takeBack_18 : decode cX5_takeBack 18 = .ok (.aload_n 0, 1) := by decide +kernel
theorem dX5_takeBack_19 : decode cX5_takeBack 19 = .ok (.getfield 15, 3) := by decide +kernel
theorem dX5_takeBack_22 : decode cX5_takeBack 22 = .ok (.iload_n 3, 1) := by decide +kernel
theorem dX5_takeBack_23 : decode cX5_takeBack 23 = .ok (.dup2, 1) := by decide +kernel
theorem dX5_takeBack_24 : decode cX5_takeBack 24 = .ok (.iaload, 1) := by decide +kernel
theorem dX5_takeBack_25 : decode cX5_takeBack 25 = .ok (.iconst 1, 1) := by decide +kernel
theorem dX5_takeBack_26 : decode cX5_takeBack 26 = .ok (.isub, 1) := by decide +kernel
theorem dX5_takeBack_27 : decode cX5_takeBack 27 = .ok (.iastore, 1) := by decide +kernel
theorem dX5_takeBack_28 : decode cX5_takeBack 28 = .ok (.aload_n 0, 1) := by decide +kernel
theorem dX5_takeBack_29 : decode cX5_takeBack 29 = .ok (.getfield 15, 3) := by decide +kernel
theorem dX5_takeBack_32 : decode cX5_takeBack 32 = .ok (.iload_n 3, 1) := by decide +kernel
theorem dX5_takeBack_33 : decode cX5_takeBack 33 = .ok (.iaload, 1) := by decide +kernel
theorem dX5_takeBack_34 : decode cX5_takeBack 34 = .ok (.ifCond .gt 18, 3) := by decide +kernel
theorem dX5_takeBack_37 : decode cX5_takeBack 37 = .ok (.aload_n 0, 1) := by decide +kernel
theorem dX5_takeBack_38 : decode cX5_takeBack 38 = .ok (.iload_n 3, 1) := by decide +kernel
theorem dX5_takeBack_39 : decode cX5_takeBack 39 = .ok (.iload_n 2, 1) := by decide +kernel
theorem dX5_takeBack_40 : decode cX5_takeBack 40 = .ok (.bipush 32, 2) := by decide +kernel
theorem dX5_takeBack_42 : decode cX5_takeBack 42 = .ok (.iadd, 1) := by decide +kernel
theorem dX5_takeBack_43 : decode cX5_takeBack 43 = .ok (.iconst 1, 1) := by decide +kernel
theorem dX5_takeBack_44 : decode cX5_takeBack 44 = .ok (.isub, 1) := by decide +kernel
theorem dX5_takeBack_45 : decode cX5_takeBack 45 = .ok (.bipush 32, 2) := by decide +kernel
theorem dX5_takeBack_47 : decode cX5_takeBack 47 = .ok (.idiv, 1) := by decide +kernel
theorem dX5_takeBack_48 : decode cX5_takeBack 48 = .ok (.iconst 0, 1) := by decide +kernel
theorem dX5_takeBack_49 : decode cX5_takeBack 49 = .ok (.invokevirtual 65, 3) := by decide +kernel
theorem dX5_takeBack_52 : decode cX5_takeBack 52 = .ok (.return_, 1) := by decide +kernel
theorem dX5_freeParts_0 : decode cX5_freeParts 0 = .ok (.iconst 0, 1) := by decide +kernel
theorem dX5_freeParts_1 : decode cX5_freeParts 1 = .ok (.istore_n 1, 1) := by decide +kernel
theorem dX5_freeParts_2 : decode cX5_freeParts 2 = .ok (.iconst 0, 1) := by decide +kernel
theorem dX5_freeParts_3 : decode cX5_freeParts 3 = .ok (.istore_n 2, 1) := by decide +kernel
theorem dX5_freeParts_4 : decode cX5_freeParts 4 = .ok (.iload_n 2, 1) := by decide +kernel
theorem dX5_freeParts_5 : decode cX5_freeParts 5 = .ok (.aload_n 0, 1) := by decide +kernel
theorem dX5_freeParts_6 : decode cX5_freeParts 6 = .ok (.getfield 18, 3) := by decide +kernel
theorem dX5_freeParts_9 : decode cX5_freeParts 9 = .ok (.if_icmp .ge 21, 3) := by decide +kernel
theorem dX5_freeParts_12 : decode cX5_freeParts 12 = .ok (.aload_n 0, 1) := by decide +kernel
theorem dX5_freeParts_13 : decode cX5_freeParts 13 = .ok (.getfield 11, 3) := by decide +kernel
theorem dX5_freeParts_16 : decode cX5_freeParts 16 = .ok (.iload_n 2, 1) := by decide +kernel
theorem dX5_freeParts_17 : decode cX5_freeParts 17 = .ok (.iaload, 1) := by decide +kernel
theorem dX5_freeParts_18 : decode cX5_freeParts 18 = .ok (.ifCond .ne 6, 3) := by decide +kernel
theorem dX5_freeParts_21 : decode cX5_freeParts 21 = .ok (.iinc 1 1, 3) := by decide +kernel
theorem dX5_freeParts_24 : decode cX5_freeParts 24 = .ok (.iinc 2 1, 3) := by decide +kernel
theorem dX5_freeParts_27 : decode cX5_freeParts 27 = .ok (.goto (-23), 3) := by decide +kernel
theorem dX5_freeParts_30 : decode cX5_freeParts 30 = .ok (.iload_n 1, 1) := by decide +kernel
theorem dX5_freeParts_31 : decode cX5_freeParts 31 = .ok (.ireturn, 1) := by decide +kernel
set_option maxRecDepth 20000 in
theorem ggX6_init_X1_init : GoodIn wsX6_init wsX1_init := by first | exact goodIn_sub (show zy_S _ wsX6_init from (zy_c (zy_t (zy_l (zy_l (zy_l (zy_l (zy_l (zy_l (zy_l (zy_l (zy_l (zy_t (zy_t (zy_t (zy_t (zy_t (zy_t (zy_t zy_h))))))))))))))))) (zy_a (zy_a (zy_a (zy_a (zy_a (zy_a (zy_a (zy_c (zy_t (zy_l (zy_l (zy_l (zy_l (zy_l (zy_l (zy_l (zy_l (zy_l (zy_t (zy_t (zy_t (zy_t (zy_t (zy_t (zy_t (zy_t zy_h)))))))))))))))))) (zy_c (zy_t (zy_l (zy_l (zy_l (zy_l (zy_l (zy_l (zy_l (zy_l (zy_l (zy_t (zy_t (zy_t (zy_t (zy_t (zy_t (zy_t (zy_t (zy_t zy_h))))))))))))))))))) (zy_c (zy_t (zy_l (zy_l (zy_l (zy_l (zy_l (zy_l (zy_l (zy_l (zy_l (zy_t (zy_t (zy_t (zy_t (zy_t (zy_t (zy_t (zy_t (zy_t (zy_t zy_h)))))))))))))))))))) (zy_c (zy_t (zy_l (zy_l (zy_l (zy_l (zy_l (zy_l (zy_l (zy_l (zy_l (zy_t (zy_t (zy_t (zy_t (zy_t (zy_t (zy_t (zy_t (zy_t (zy_t (zy_t zy_h))))))))))))))))))))) zy_n)))) (zy_p (fun _ h => (zy_t (zy_l (zy_l (zy_l (zy_l (zy_l (zy_r h)))))))))) (zy_p (fun _ h => (zy_t (zy_l (zy_l (zy_l (zy_l (zy_r h))))))))) (zy_p (fun _ h => (zy_t (zy_l (zy_l (zy_l (zy_r h)))))))) (zy_p (fun _ h => (zy_t (zy_l (zy_l (zy_r h))))))) (zy_p (fun _ h => (zy_t (zy_l (zy_r h)))))) (zy_p (fun _ h => (zy_t (zy_l (zy_l (zy_l (zy_l (zy_l (zy_l (zy_r h))))))))))) (zy_p (fun _ h => (zy_t (zy_r h))))))) (by decide +kernel) | exact goodIn_r _ [8, 9, 10, 11, 12, 32, 33, 34, 35, 36, 37, 38, 39, 40, 41, 42, 43, 44, 45, 30, 31, 46, 47] (by decide +kernel) (by decide +kernel)
set_option maxRecDepth 20000 in
theorem gX6_init_X1_init : GoodIn wsX6_init (wsX1_init) := ggX6_init_X1_init
set_option maxRecDepth 20000 in
theorem ggX6_init_X10_init : GoodIn wsX6_init wsX10_init := by first | exact goodIn_sub (show zy_S _ wsX6_init from (zy_c (zy_t (zy_l (zy_l (zy_l (zy_l (zy_l (zy_l (zy_l (zy_l (zy_l (zy_t (zy_t (zy_t (zy_t (zy_t (zy_t (zy_t (zy_t (zy_t (zy_t (zy_t (zy_t (zy_t (zy_t zy_h)))))))))))))))))))))))) (zy_a (zy_c (zy_t (zy_l (zy_l (zy_l (zy_l (zy_l (zy_l (zy_l (zy_l (zy_l (zy_t (zy_t (zy_t (zy_t (zy_t (zy_t (zy_t (zy_t (zy_t (zy_t (zy_t (zy_t (zy_t (zy_t (zy_t zy_h))))))))))))))))))))))))) (zy_c (zy_t (zy_l (zy_l (zy_l (zy_l (zy_l (zy_l (zy_l (zy_l (zy_l (zy_t (zy_t (zy_t (zy_t (zy_t (zy_t (zy_t (zy_t (zy_t zy_h))))))))))))))))))) (zy_c (zy_t (zy_l (zy_l (zy_l (zy_l (zy_l (zy_l (zy_l (zy_l (zy_l (zy_t (zy_t (zy_t (zy_t (zy_t (zy_t (zy_t (zy_t (zy_t (zy_t zy_h)))))))))))))))))))) (zy_c (zy_t (zy_l (zy_l (zy_l (zy_l (zy_l (zy_l (zy_l (zy_l (zy_l (zy_t (zy_t (zy_t (zy_t (zy_t (zy_t (zy_t (zy_t (zy_t (zy_t (zy_t (zy_t (zy_t (zy_t (zy_t (zy_t zy_h)))))))))))))))))))))))))) (zy_c (zy_t (zy_l (zy_l (zy_l (zy_l (zy_l (zy_l (zy_l (zy_l (zy_l (zy_t (zy_t (zy_t (zy_t (zy_t (zy_t (zy_t (zy_t (zy_t (zy_t (zy_t (zy_t (zy_t (zy_t (zy_t (zy_t (zy_t zy_h))))))))))))))))))))))))))) (zy_c (zy_t (zy_l (zy_l (zy_l (zy_l (zy_l (zy_l (zy_l (zy_l (zy_l (zy_t (zy_t (zy_t (zy_t (zy_t (zy_t (zy_t (zy_t (zy_t (zy_t (zy_t (zy_t (zy_t (zy_t (zy_t (zy_t (zy_t (zy_t zy_h)))))))))))))))))))))))))))) (zy_c (zy_t (zy_l (zy_l (zy_l (zy_l (zy_l (zy_l (zy_l (zy_l (zy_l (zy_t (zy_t (zy_t (zy_t (zy_t (zy_t (zy_t (zy_t (zy_t (zy_t (zy_t (zy_t (zy_t (zy_t (zy_t (zy_t (zy_t (zy_t (zy_t zy_h))))))))))))))))))))))))))))) (zy_c (zy_t (zy_l (zy_l (zy_l (zy_l (zy_l (zy_l (zy_l (zy_l (zy_l (zy_t (zy_t (zy_t (zy_t (zy_t (zy_t (zy_t (zy_t (zy_t (zy_t (zy_t (zy_t (zy_t (zy_t (zy_t (zy_t (zy_t (zy_t (zy_t (zy_t zy_h)))))))))))))))))))))))))))))) (zy_c (zy_t (zy_l (zy_l (zy_l (zy_l (zy_l (zy_l (zy_l (zy_l (zy_l (zy_t (zy_t (zy_t (zy_t (zy_t (zy_t (zy_t (zy_t (zy_t (zy_t (zy_t (zy_t (zy_t (zy_t (zy_t (zy_t (zy_t (zy_t (zy_t (zy_t (zy_t zy_h))))))))))))))))))))))))))))))) (zy_c (zy_t (zy_l (zy_l (zy_l (zy_l (zy_l (zy_l (zy_l (zy_l (zy_l (zy_t (zy_t (zy_t (zy_t (zy_t (zy_t (zy_t (zy_t (zy_t (zy_t (zy_t (zy_t (zy_t (zy_t (zy_t (zy_t (zy_t (zy_t (zy_t (zy_t (zy_t (zy_t zy_h)))))))))))))))))))))))))))))))) (zy_c (zy_t (zy_l (zy_l (zy_l (zy_l (zy_l (zy_l (zy_l (zy_l (zy_l (zy_t (zy_t (zy_t (zy_t (zy_t (zy_t (zy_t (zy_t (zy_t (zy_t (zy_t (zy_t (zy_t (zy_t (zy_t (zy_t (zy_t (zy_t (zy_t (zy_t (zy_t (zy_t (zy_t zy_h))))))))))))))))))))))))))))))))) (zy_c (zy_t (zy_l (zy_l (zy_l (zy_l (zy_l (zy_l (zy_l (zy_l (zy_r zy_h)))))))))) zy_n)))))))))))) (zy_p (fun _ h => (zy_t (zy_l (zy_l (zy_l (zy_l (zy_l (zy_l (zy_l (zy_r h)))))))))))))) (by decide +kernel) | exact goodIn_r _ [15, 16, 10, 11, 17, 18, 19, 20, 21, 22, 23, 24, 25, 26, 27, 28, 29] (by decide +kernel) (by decide +kernel)
set_option maxRecDepth 20000 in
theorem gX6_init_X10_init : GoodIn wsX6_init (wsX10_init) := ggX6_init_X10_init
theorem dX6_init_0 : decode cX6_init 0 = .ok (.aload_n 0, 1) := by decide +kernel
theorem dX6_init_1 : decode cX6_init 1 = .ok (.aload_n 1, 1) := by decide +kernel
theorem dX6_init_2 : decode cX6_init 2 = .ok (.invokespecial 3, 3) := by decide +kernel
theorem dX6_init_5 : decode cX6_init 5 = .ok (.aload_n 0, 1) := by decide +kernel
theorem dX6_init_6 : decode cX6_init 6 = .ok (.new 9, 3) := by decide +kernel
theorem dX6_init_9 : decode cX6_init 9 = .ok (.dup, 1) := by decide +kernel
theorem dX6_init_10 : decode cX6_init 10 = .ok (.sipush 1024, 3) := by decide +kernel
theorem dX6_init_13 : decode cX6_init 13 = .ok (.invokespecial 11, 3) := by decide +kernel
theorem dX6_init_16 : decode cX6_init 16 = .ok (.putfield 14, 3) := by decide +kernel
theorem dX6_init_19 : decode cX6_init 19 = .ok (.return_, 1) := by decide +kernel
set_option maxRecDepth 20000 in
theorem ggX6_begin_X10_clear : GoodIn wsX6_begin wsX10_clear := by first | exact goodIn_sub (show zy_S _ wsX6_begin from (zy_c (zy_t (zy_l (zy_l (zy_t (zy_t (zy_t (zy_t (zy_t zy_h)))))))) (zy_a (zy_c (zy_t (zy_l (zy_l (zy_t (zy_t (zy_t (zy_t (zy_t (zy_t zy_h))))))))) zy_n) (zy_p (fun _ h => (zy_t (zy_r h))))))) (by decide +kernel) | exact goodIn_r _ [6, 7, 10, 11, 12, 13] (by decide +kernel) (by decide +kernel)
set_option maxRecDepth 20000 in
theorem gX6_begin_X10_clear : GoodIn wsX6_begin (wsV RX6 20 RX10 yX10_clear wsX10_clear) := by first | exact goodIn_app (goodIn_sub (show zy_S _ wsX6_begin from (zy_c (zy_t (zy_l (zy_l (zy_t zy_h)))) (zy_c (zy_t (zy_l (zy_l (zy_t (zy_t zy_h))))) (zy_c (zy_t (zy_l (zy_l (zy_t (zy_t (zy_t zy_h)))))) (zy_c (zy_t (zy_l (zy_l (zy_t (zy_t (zy_t (zy_t zy_h))))))) zy_n))))) (by decide +kernel)) ggX6_begin_X10_clear | exact goodIn_app (goodIn_of _ (by decide +kernel)) ggX6_begin_X10_clear
theorem dX6_begin_0 : decode cX6_begin 0 = .ok (.aload_n 0, 1) := by decide +kernel
theorem dX6_begin_1 : decode cX6_begin 1 = .ok (.getfield 14, 3) := by decide +kernel
theorem dX6_begin_4 : decode cX6_begin 4 = .ok (.invokevirtual 20, 3) := by decide +kernel
theorem dX6_begin_7 : decode cX6_begin 7 = .ok (.return_, 1) := by decide +kernel
set_option maxRecDepth 20000 in
theorem ggX6_take_X6_takeQuick : GoodIn wsX6_take wsX6_takeQuick := by first | exact goodIn_sub (show zy_S _ wsX6_take from (zy_c (zy_t (zy_l (zy_l (zy_l (zy_l (zy_l (zy_l (zy_l (zy_l (zy_l (zy_l (zy_t (zy_t (zy_t (zy_t zy_h))))))))))))))) (zy_a (zy_a (zy_a (zy_c (zy_t (zy_l (zy_l (zy_l (zy_l (zy_l (zy_l (zy_l (zy_l (zy_l (zy_l (zy_t (zy_t (zy_t (zy_t (zy_t zy_h)))))))))))))))) (zy_c (zy_t (zy_l (zy_l (zy_l (zy_l (zy_l (zy_l (zy_l (zy_l (zy_l (zy_l (zy_t (zy_t (zy_t (zy_t (zy_t (zy_t zy_h))))))))))))))))) (zy_c (zy_t (zy_l (zy_l (zy_l (zy_l (zy_l (zy_l (zy_l (zy_l (zy_l (zy_l (zy_t (zy_t (zy_t (zy_t (zy_t (zy_t (zy_t zy_h)))))))))))))))))) (zy_c (zy_t (zy_l (zy_l (zy_l (zy_l (zy_l (zy_l (zy_l (zy_l (zy_l (zy_l (zy_t (zy_t (zy_t (zy_t (zy_t (zy_t (zy_t (zy_t zy_h))))))))))))))))))) (zy_c (zy_t (zy_l (zy_l (zy_l (zy_l (zy_l (zy_l (zy_l (zy_l (zy_l (zy_l (zy_t (zy_t (zy_t (zy_t (zy_t (zy_t (zy_t (zy_t (zy_t zy_h)))))))))))))))))))) (zy_c (zy_t (zy_l (zy_l (zy_l (zy_l (zy_l (zy_l (zy_l (zy_l (zy_l (zy_l (zy_t (zy_t (zy_t (zy_t (zy_t (zy_t (zy_t (zy_t (zy_t (zy_t zy_h))))))))))))))))))))) (zy_c (zy_t (zy_l (zy_l (zy_l (zy_l (zy_l (zy_l (zy_l (zy_l (zy_l (zy_l (zy_t (zy_t (zy_t (zy_t (zy_t (zy_t (zy_t (zy_t (zy_t (zy_t (zy_t zy_h)))))))))))))))))))))) (zy_c (zy_t (zy_l (zy_l (zy_l (zy_l (zy_l (zy_l (zy_l (zy_l (zy_l (zy_l (zy_t (zy_t (zy_t (zy_t (zy_t (zy_t (zy_t (zy_t (zy_t (zy_t (zy_t (zy_t zy_h))))))))))))))))))))))) (zy_c (zy_t (zy_l (zy_l (zy_l (zy_l (zy_l (zy_l (zy_l (zy_l (zy_l (zy_l (zy_t (zy_t (zy_t (zy_t (zy_t (zy_t (zy_t (zy_t (zy_t (zy_t (zy_t (zy_t (zy_t zy_h)))))))))))))))))))))))) (zy_c (zy_t (zy_l (zy_l (zy_l (zy_l (zy_l (zy_l (zy_l (zy_l (zy_l (zy_l (zy_t (zy_t (zy_t (zy_t (zy_t (zy_t (zy_t (zy_t (zy_t (zy_t (zy_t (zy_t (zy_t (zy_t zy_h))))))))))))))))))))))))) (zy_c (zy_t (zy_l (zy_l (zy_l (zy_l (zy_l (zy_l (zy_l (zy_l (zy_l (zy_l (zy_t (zy_t (zy_t (zy_t (zy_t (zy_t (zy_t (zy_t (zy_t (zy_t (zy_t (zy_t (zy_t (zy_t (zy_t zy_h)))))))))))))))))))))))))) (zy_c (zy_t (zy_l (zy_l (zy_l (zy_l (zy_l (zy_l (zy_l (zy_l (zy_l (zy_l (zy_t (zy_t (zy_t (zy_t (zy_t (zy_t (zy_t (zy_t (zy_t (zy_t (zy_t (zy_t (zy_t (zy_t (zy_t (zy_t zy_h))))))))))))))))))))))))))) (zy_c (zy_t (zy_l (zy_l (zy_l (zy_l (zy_l (zy_l (zy_l (zy_l (zy_l (zy_l (zy_t (zy_t (zy_t (zy_t (zy_t (zy_t (zy_t (zy_t (zy_t (zy_t (zy_t (zy_t (zy_t (zy_t (zy_t (zy_t (zy_t zy_h)))))))))))))))))))))))))))) (zy_c (zy_t (zy_l (zy_l (zy_l (zy_l (zy_l (zy_l (zy_l (zy_l (zy_l (zy_l (zy_t (zy_t (zy_t (zy_t (zy_t (zy_t (zy_t (zy_t (zy_t (zy_t (zy_t (zy_t (zy_t (zy_t (zy_t (zy_t (zy_t (zy_t zy_h))))))))))))))))))))))))))))) (zy_c (zy_t (zy_l (zy_l (zy_l (zy_l (zy_l (zy_l (zy_l (zy_l (zy_l (zy_l (zy_t (zy_t (zy_t (zy_t (zy_t (zy_t (zy_t (zy_t (zy_t (zy_t (zy_t (zy_t (zy_t (zy_t (zy_t (zy_t (zy_t (zy_t (zy_t zy_h)))))))))))))))))))))))))))))) (zy_c (zy_t (zy_l (zy_l (zy_l (zy_l (zy_l (zy_l (zy_l (zy_l (zy_l (zy_l (zy_t (zy_t (zy_t (zy_t (zy_t (zy_t (zy_t (zy_t (zy_t (zy_t (zy_t (zy_t (zy_t (zy_t (zy_t (zy_t (zy_t (zy_t (zy_t (zy_t zy_h))))))))))))))))))))))))))))))) (zy_c (zy_t (zy_l (zy_l (zy_l (zy_l (zy_l (zy_l (zy_l (zy_l (zy_l (zy_l (zy_t (zy_t (zy_t (zy_t (zy_t (zy_t (zy_t (zy_t (zy_t (zy_t (zy_t (zy_t (zy_t (zy_t (zy_t (zy_t (zy_t (zy_t (zy_t (zy_t (zy_t zy_h)))))))))))))))))))))))))))))))) (zy_c (zy_t (zy_l (zy_l (zy_l (zy_l (zy_l (zy_l (zy_l (zy_l (zy_l (zy_l (zy_t (zy_t (zy_t (zy_t (zy_t (zy_t (zy_t (zy_t (zy_t (zy_t (zy_t (zy_t (zy_t (zy_t (zy_t (zy_t (zy_t (zy_t (zy_t (zy_t (zy_t (zy_t zy_h))))))))))))))))))))))))))))))))) (zy_c (zy_t (zy_l (zy_l (zy_l (zy_l (zy_l (zy_l (zy_l (zy_l (zy_l (zy_l (zy_t (zy_t (zy_t (zy_t (zy_t (zy_t (zy_t (zy_t (zy_t (zy_t (zy_t (zy_t (zy_t (zy_t (zy_t (zy_t (zy_t (zy_t (zy_t (zy_t (zy_t (zy_t (zy_t zy_h)))))))))))))))))))))))))))))))))) (zy_c (zy_t (zy_l (zy_l (zy_l (zy_l (zy_l (zy_l (zy_l (zy_l (zy_l (zy_r (zy_l zy_h)))))))))))) (zy_c (zy_t (zy_l (zy_l (zy_l (zy_l (zy_l (zy_l (zy_l (zy_l (zy_l (zy_r (zy_l (zy_t zy_h))))))))))))) (zy_c (zy_t (zy_l (zy_l (zy_l (zy_l (zy_l (zy_l (zy_l (zy_l (zy_l (zy_r (zy_l (zy_t (zy_t zy_h)))))))))))))) (zy_c (zy_t (zy_l (zy_l (zy_l (zy_l (zy_l (zy_l (zy_l (zy_l (zy_l (zy_r (zy_l (zy_t (zy_t (zy_t zy_h))))))))))))))) (zy_c (zy_t (zy_l (zy_l (zy_l (zy_l (zy_l (zy_l (zy_l (zy_l (zy_l (zy_r (zy_l (zy_t (zy_t (zy_t (zy_t zy_h)))))))))))))))) zy_n)))))))))))))))))))))))) (zy_c (zy_t (zy_l (zy_l (zy_l (zy_l (zy_l (zy_l (zy_l (zy_l (zy_l (zy_r (zy_l (zy_t (zy_t (zy_t (zy_t (zy_t zy_h))))))))))))))))) zy_n)) (zy_p (fun _ h => (zy_t (zy_l (zy_l (zy_l (zy_l (zy_l (zy_l (zy_l (zy_l (zy_r h))))))))))))) (zy_p (fun _ h => (zy_t (zy_l (zy_l (zy_l (zy_l (zy_l (zy_l (zy_l (zy_r h)))))))))))))) (by decide +kernel) | exact goodIn_r _ [5, 6, 7, 8, 9, 10, 11, 12, 13, 14, 15, 16, 17, 18, 19, 20, 21, 22, 23, 24, 25, 26, 27, 28, 29, 30, 109, 110, 111, 112, 113, 114] (by decide +kernel) (by decide +kernel)
set_option maxRecDepth 20000 in
theorem gX6_take_X6_takeQuick : GoodIn wsX6_take (wsV RX6 24 RX6 yX6_takeQuick wsX6_takeQuick) := by first | exact goodIn_app (goodIn_sub (show zy_S _ wsX6_take from (zy_c (zy_t (zy_l (zy_l (zy_l (zy_l (zy_l (zy_l (zy_l (zy_l (zy_l (zy_l zy_h))))))))))) (zy_c (zy_t (zy_l (zy_l (zy_l (zy_l (zy_l (zy_l (zy_l (zy_l (zy_l (zy_l (zy_t zy_h)))))))))))) (zy_c (zy_t (zy_l (zy_l (zy_l (zy_l (zy_l (zy_l (zy_l (zy_l (zy_l (zy_l (zy_t (zy_t zy_h))))))))))))) (zy_c (zy_t (zy_l (zy_l (zy_l (zy_l (zy_l (zy_l (zy_l (zy_l (zy_l (zy_l (zy_t (zy_t (zy_t zy_h)))))))))))))) zy_n))))) (by decide +kernel)) ggX6_take_X6_takeQuick | exact goodIn_app (goodIn_of _ (by decide +kernel)) ggX6_take_X6_takeQuick
set_option maxRecDepth 20000 in
theorem ggX6_take_X6_takeFirst : GoodIn wsX6_take wsX6_takeFirst := by first | exact goodIn_sub (show zy_S _ wsX6_take from (zy_c (zy_t (zy_l (zy_l (zy_l (zy_l (zy_l (zy_l (zy_l (zy_l (zy_l (zy_r (zy_l (zy_t (zy_t (zy_t (zy_t (zy_t (zy_t (zy_t (zy_t (zy_t zy_h))))))))))))))))))))) (zy_a (zy_a (zy_a (zy_a (zy_a (zy_a (zy_a (zy_a (zy_a (zy_a (zy_c (zy_t (zy_l (zy_l (zy_l (zy_l (zy_l (zy_l (zy_l (zy_l (zy_l (zy_r (zy_l (zy_t (zy_t (zy_t (zy_t (zy_t (zy_t (zy_t (zy_t (zy_t (zy_t zy_h)))))))))))))))))))))) (zy_c (zy_t (zy_l (zy_l (zy_l (zy_l (zy_l (zy_l (zy_l (zy_l (zy_l (zy_r (zy_l (zy_t (zy_t (zy_t (zy_t (zy_t (zy_t (zy_t (zy_t (zy_t (zy_t (zy_t zy_h))))))))))))))))))))))) (zy_c (zy_t (zy_l (zy_l (zy_l (zy_l (zy_l (zy_l (zy_l (zy_l (zy_l (zy_r (zy_l (zy_t (zy_t (zy_t (zy_t (zy_t (zy_t (zy_t (zy_t (zy_t (zy_t (zy_t (zy_t zy_h)))))))))))))))))))))))) (zy_c (zy_t (zy_l (zy_l (zy_l (zy_l (zy_l (zy_l (zy_l (zy_l (zy_l (zy_r (zy_l (zy_t (zy_t (zy_t (zy_t (zy_t (zy_t (zy_t (zy_t (zy_t (zy_t (zy_t (zy_t (zy_t zy_h))))))))))))))))))))))))) (zy_c (zy_t (zy_l (zy_l (zy_l (zy_l (zy_l (zy_l (zy_l (zy_l (zy_l (zy_r (zy_l (zy_t (zy_t (zy_t (zy_t (zy_t (zy_t (zy_t (zy_t (zy_t (zy_t (zy_t (zy_t (zy_t (zy_t zy_h)))))))))))))))))))))))))) (zy_c (zy_t (zy_l (zy_l (zy_l (zy_l (zy_l (zy_l (zy_l (zy_l (zy_l (zy_r (zy_l (zy_t (zy_t (zy_t (zy_t (zy_t (zy_t (zy_t (zy_t (zy_t (zy_t (zy_t (zy_t (zy_t (zy_t (zy_t zy_h))))))))))))))))))))))))))) (zy_c (zy_t (zy_l (zy_l (zy_l (zy_l (zy_l (zy_l (zy_l (zy_l (zy_l (zy_r (zy_l (zy_t (zy_t (zy_t (zy_t (zy_t (zy_t (zy_t (zy_t (zy_t (zy_t (zy_t (zy_t (zy_t (zy_t (zy_t (zy_t zy_h)))))))))))))))))))))))))))) (zy_c (zy_t (zy_l (zy_l (zy_l (zy_l (zy_l (zy_l (zy_l (zy_l (zy_l (zy_r (zy_l (zy_t (zy_t (zy_t (zy_t (zy_t (zy_t (zy_t (zy_t (zy_t (zy_t (zy_t (zy_t (zy_t (zy_t (zy_t (zy_t (zy_t zy_h))))))))))))))))))))))))))))) (zy_c (zy_t (zy_l (zy_l (zy_l (zy_l (zy_l (zy_l (zy_l (zy_l (zy_l (zy_r (zy_l (zy_t (zy_t (zy_t (zy_t (zy_t (zy_t (zy_t (zy_t (zy_t (zy_t (zy_t (zy_t (zy_t (zy_t (zy_t (zy_t (zy_t (zy_t zy_h)))))))))))))))))))))))))))))) (zy_c (zy_t (zy_l (zy_l (zy_l (zy_l (zy_l (zy_l (zy_l (zy_l (zy_l (zy_r (zy_l (zy_t (zy_t (zy_t (zy_t (zy_t (zy_t (zy_t (zy_t (zy_t (zy_t (zy_t (zy_t (zy_t (zy_t (zy_t (zy_t (zy_t (zy_t (zy_t zy_h))))))))))))))))))))))))))))))) (zy_c (zy_t (zy_l (zy_l (zy_l (zy_l (zy_l (zy_l (zy_l (zy_l (zy_l (zy_r (zy_l (zy_t (zy_t (zy_t (zy_t (zy_t (zy_t (zy_t (zy_t (zy_t (zy_t (zy_t (zy_t (zy_t (zy_t (zy_t (zy_t (zy_t (zy_t (zy_t (zy_t zy_h)))))))))))))))))))))))))))))))) (zy_c (zy_t (zy_l (zy_l (zy_l (zy_l (zy_l (zy_l (zy_l (zy_l (zy_l (zy_r (zy_l (zy_t (zy_t (zy_t (zy_t (zy_t (zy_t (zy_t (zy_t (zy_t (zy_t (zy_t (zy_t (zy_t (zy_t (zy_t (zy_t (zy_t (zy_t (zy_t (zy_t (zy_t zy_h))))))))))))))))))))))))))))))))) (zy_c (zy_t (zy_l (zy_l (zy_l (zy_l (zy_l (zy_l (zy_l (zy_l (zy_l (zy_l (zy_t (zy_t (zy_t (zy_t (zy_t (zy_t (zy_t (zy_t (zy_t zy_h)))))))))))))))))))) (zy_c (zy_t (zy_l (zy_l (zy_l (zy_l (zy_l (zy_l (zy_l (zy_l (zy_l (zy_r (zy_l (zy_t (zy_t (zy_t (zy_t (zy_t (zy_t (zy_t (zy_t (zy_t (zy_t (zy_t (zy_t (zy_t (zy_t (zy_t (zy_t (zy_t (zy_t (zy_t (zy_t (zy_t (zy_t zy_h)))))))))))))))))))))))))))))))))) (zy_c (zy_t (zy_l (zy_l (zy_l (zy_l (zy_l (zy_l (zy_l (zy_l (zy_l (zy_l (zy_t (zy_t (zy_t (zy_t (zy_t (zy_t (zy_t (zy_t (zy_t (zy_t (zy_t zy_h)))))))))))))))))))))) (zy_c (zy_t (zy_l (zy_l (zy_l (zy_l (zy_l (zy_l (zy_l (zy_l (zy_l (zy_r (zy_l (zy_t (zy_t (zy_t (zy_t (zy_t (zy_t (zy_t (zy_t (zy_t (zy_t (zy_t (zy_t (zy_t (zy_t (zy_t (zy_t (zy_t (zy_t (zy_t (zy_t (zy_t (zy_t (zy_t zy_h))))))))))))))))))))))))))))))))))) (zy_c (zy_t (zy_l (zy_l (zy_l (zy_l (zy_l (zy_l (zy_l (zy_l (zy_l (zy_r (zy_r (zy_l zy_h))))))))))))) (zy_c (zy_t (zy_l (zy_l (zy_l (zy_l (zy_l (zy_l (zy_l (zy_l (zy_l (zy_r (zy_r (zy_l (zy_t zy_h)))))))))))))) (zy_c (zy_t (zy_l (zy_l (zy_l (zy_l (zy_l (zy_l (zy_l (zy_l (zy_l (zy_r (zy_r (zy_l (zy_t (zy_t zy_h))))))))))))))) (zy_c (zy_t (zy_l (zy_l (zy_l (zy_l (zy_l (zy_l (zy_l (zy_l (zy_l (zy_r (zy_r (zy_l (zy_t (zy_t (zy_t zy_h)))))))))))))))) (zy_c (zy_t (zy_l (zy_l (zy_l (zy_l (zy_l (zy_l (zy_l (zy_l (zy_l (zy_r (zy_r (zy_l (zy_t (zy_t (zy_t (zy_t zy_h))))))))))))))))) (zy_c (zy_t (zy_l (zy_l (zy_l (zy_l (zy_l (zy_l (zy_l (zy_l (zy_l (zy_r (zy_r (zy_l (zy_t (zy_t (zy_t (zy_t (zy_t zy_h)))))))))))))))))) (zy_c (zy_t (zy_l (zy_l (zy_l (zy_l (zy_l (zy_l (zy_l (zy_l (zy_l (zy_r (zy_r (zy_l (zy_t (zy_t (zy_t (zy_t (zy_t (zy_t zy_h))))))))))))))))))) (zy_c (zy_t (zy_l (zy_l (zy_l (zy_l (zy_l (zy_l (zy_l (zy_l (zy_l (zy_r (zy_r (zy_l (zy_t (zy_t (zy_t (zy_t (zy_t (zy_t (zy_t zy_h)))))))))))))))))))) zy_n)))))))))))))))))))))))) (zy_a (zy_c (zy_t (zy_l (zy_l (zy_l (zy_l (zy_l (zy_l (zy_l (zy_l (zy_l (zy_l (zy_t (zy_t (zy_t (zy_t (zy_t (zy_t (zy_t (zy_t (zy_t (zy_t (zy_t (zy_t (zy_t (zy_t (zy_t (zy_t (zy_t (zy_t (zy_t (zy_t (zy_t zy_h)))))))))))))))))))))))))))))))) (zy_c (zy_t (zy_l (zy_l (zy_l (zy_l (zy_l (zy_l (zy_l (zy_l (zy_l (zy_l (zy_t (zy_t (zy_t (zy_t (zy_t (zy_t (zy_t (zy_t (zy_t (zy_t (zy_t (zy_t (zy_t (zy_t (zy_t (zy_t zy_h))))))))))))))))))))))))))) (zy_c (zy_t (zy_l (zy_l (zy_l (zy_l (zy_l (zy_l (zy_l (zy_l (zy_l (zy_r (zy_r (zy_l (zy_t (zy_t (zy_t (zy_t (zy_t (zy_t (zy_t (zy_t zy_h))))))))))))))))))))) (zy_c (zy_t (zy_l (zy_l (zy_l (zy_l (zy_l (zy_l (zy_l (zy_l (zy_l (zy_r (zy_r (zy_l (zy_t (zy_t (zy_t (zy_t (zy_t (zy_t (zy_t (zy_t (zy_t zy_h)))))))))))))))))))))) (zy_c (zy_t (zy_l (zy_l (zy_l (zy_l (zy_l (zy_l (zy_l (zy_l (zy_l (zy_r (zy_r (zy_l (zy_t (zy_t (zy_t (zy_t (zy_t (zy_t (zy_t (zy_t (zy_t (zy_t zy_h))))))))))))))))))))))) (zy_c (zy_t (zy_l (zy_l (zy_l (zy_l (zy_l (zy_l (zy_l (zy_l (zy_l (zy_r (zy_r (zy_l (zy_t (zy_t (zy_t (zy_t (zy_t (zy_t (zy_t (zy_t (zy_t (zy_t (zy_t zy_h)))))))))))))))))))))))) (zy_c (zy_t (zy_l (zy_l (zy_l (zy_l (zy_l (zy_l (zy_l (zy_l (zy_l (zy_r (zy_r (zy_l (zy_t (zy_t (zy_t (zy_t (zy_t (zy_t (zy_t (zy_t (zy_t (zy_t (zy_t (zy_t zy_h))))))))))))))))))))))))) (zy_c (zy_t (zy_l (zy_l (zy_l (zy_l (zy_l (zy_l (zy_l (zy_l (zy_l (zy_r (zy_r (zy_l (zy_t (zy_t (zy_t (zy_t (zy_t (zy_t (zy_t (zy_t (zy_t (zy_t (zy_t (zy_t (zy_t zy_h)))))))))))))))))))))))))) (zy_c (zy_t (zy_l (zy_l (zy_l (zy_l (zy_l (zy_l (zy_l (zy_l (zy_l (zy_r (zy_r (zy_l (zy_t (zy_t (zy_t (zy_t (zy_t (zy_t (zy_t (zy_t (zy_t (zy_t (zy_t (zy_t (zy_t (zy_t zy_h))))))))))))))))))))))))))) (zy_c (zy_t (zy_l (zy_l (zy_l (zy_l (zy_l (zy_l (zy_l (zy_l (zy_l (zy_r (zy_r (zy_l (zy_t (zy_t (zy_t (zy_t (zy_t (zy_t (zy_t (zy_t (zy_t (zy_t (zy_t (zy_t (zy_t (zy_t (zy_t zy_h)))))))))))))))))))))))))))) (zy_c (zy_t (zy_l (zy_l (zy_l (zy_l (zy_l (zy_l (zy_l (zy_l (zy_l (zy_r (zy_r (zy_l (zy_t (zy_t (zy_t (zy_t (zy_t (zy_t (zy_t (zy_t (zy_t (zy_t (zy_t (zy_t (zy_t (zy_t (zy_t (zy_t zy_h))))))))))))))))))))))))))))) (zy_c (zy_t (zy_l (zy_l (zy_l (zy_l (zy_l (zy_l (zy_l (zy_l (zy_l (zy_r (zy_r (zy_l (zy_t (zy_t (zy_t (zy_t (zy_t (zy_t (zy_t (zy_t (zy_t (zy_t (zy_t (zy_t (zy_t (zy_t (zy_t (zy_t (zy_t zy_h)))))))))))))))))))))))))))))) (zy_c (zy_t (zy_l (zy_l (zy_l (zy_l (zy_l (zy_l (zy_l (zy_l (zy_l (zy_r (zy_r (zy_l (zy_t (zy_t (zy_t (zy_t (zy_t (zy_t (zy_t (zy_t (zy_t (zy_t (zy_t (zy_t (zy_t (zy_t (zy_t (zy_t (zy_t (zy_t zy_h))))))))))))))))))))))))))))))) (zy_c (zy_t (zy_l (zy_l (zy_l (zy_l (zy_l (zy_l (zy_l (zy_l (zy_l (zy_r (zy_r (zy_l (zy_t (zy_t (zy_t (zy_t (zy_t (zy_t (zy_t (zy_t (zy_t (zy_t (zy_t (zy_t (zy_t (zy_t (zy_t (zy_t (zy_t (zy_t (zy_t zy_h)))))))))))))))))))))))))))))))) (zy_c (zy_t (zy_l (zy_l (zy_l (zy_l (zy_l (zy_l (zy_l (zy_l (zy_l (zy_r (zy_r (zy_l (zy_t (zy_t (zy_t (zy_t (zy_t (zy_t (zy_t (zy_t (zy_t (zy_t (zy_t (zy_t (zy_t (zy_t (zy_t (zy_t (zy_t (zy_t (zy_t (zy_t zy_h))))))))))))))))))))))))))))))))) (zy_c (zy_t (zy_l (zy_l (zy_l (zy_l (zy_l (zy_l (zy_l (zy_l (zy_l (zy_r (zy_r (zy_l (zy_t (zy_t (zy_t (zy_t (zy_t (zy_t (zy_t (zy_t (zy_t (zy_t (zy_t (zy_t (zy_t (zy_t (zy_t (zy_t (zy_t (zy_t (zy_t (zy_t (zy_t zy_h)))))))))))))))))))))))))))))))))) (zy_c (zy_t (zy_l (zy_l (zy_l (zy_l (zy_l (zy_l (zy_l (zy_l (zy_l (zy_r (zy_r (zy_l (zy_t (zy_t (zy_t (zy_t (zy_t (zy_t (zy_t (zy_t (zy_t (zy_t (zy_t (zy_t (zy_t (zy_t (zy_t (zy_t (zy_t (zy_t (zy_t (zy_t (zy_t (zy_t zy_h))))))))))))))))))))))))))))))))))) (zy_c (zy_t (zy_l (zy_l (zy_l (zy_l (zy_l (zy_l (zy_l (zy_l (zy_l (zy_r (zy_r (zy_l (zy_t (zy_t (zy_t (zy_t (zy_t (zy_t (zy_t (zy_t (zy_t (zy_t (zy_t (zy_t (zy_t (zy_t (zy_t (zy_t (zy_t (zy_t (zy_t (zy_t (zy_t (zy_t (zy_t zy_h)))))))))))))))))))))))))))))))))))) (zy_c (zy_t (zy_l (zy_l (zy_l (zy_l (zy_l (zy_l (zy_l (zy_l (zy_l (zy_r (zy_r (zy_r (zy_l zy_h)))))))))))))) (zy_c (zy_t (zy_l (zy_l (zy_l (zy_l (zy_l (zy_l (zy_l (zy_l (zy_l (zy_r (zy_r (zy_r (zy_l (zy_t zy_h))))))))))))))) (zy_c (zy_t (zy_l (zy_l (zy_l (zy_l (zy_l (zy_l (zy_l (zy_l (zy_l (zy_l (zy_t (zy_t (zy_t (zy_t (zy_t (zy_t (zy_t (zy_t (zy_t (zy_t (zy_t (zy_t (zy_t (zy_t (zy_t (zy_t (zy_t (zy_t zy_h))))))))))))))))))))))))))))) (zy_c (zy_t (zy_l (zy_l (zy_l (zy_l (zy_l (zy_l (zy_l (zy_l (zy_l (zy_l (zy_t (zy_t (zy_t (zy_t (zy_t (zy_t (zy_t (zy_t (zy_t (zy_t (zy_t (zy_t (zy_t (zy_t (zy_t (zy_t (zy_t (zy_t (zy_t zy_h)))))))))))))))))))))))))))))) (zy_c (zy_t (zy_l (zy_l (zy_l (zy_l (zy_l (zy_l (zy_l (zy_l (zy_l (zy_l (zy_t (zy_t (zy_t (zy_t (zy_t (zy_t (zy_t (zy_t (zy_t (zy_t (zy_t (zy_t (zy_t (zy_t (zy_t (zy_t (zy_t (zy_t (zy_t (zy_t zy_h))))))))))))))))))))))))))))))) (zy_c (zy_t (zy_l (zy_l (zy_l (zy_l (zy_l (zy_l (zy_l (zy_l (zy_l (zy_r (zy_r (zy_r (zy_l (zy_t (zy_t zy_h)))))))))))))))) zy_n)))))))))))))))))))))))) (zy_c (zy_t (zy_l (zy_l (zy_l (zy_l (zy_l (zy_l (zy_l (zy_l (zy_l (zy_r (zy_r (zy_r (zy_l (zy_t (zy_t (zy_t zy_h))))))))))))))))) (zy_c (zy_t (zy_l (zy_l (zy_l (zy_l (zy_l (zy_l (zy_l (zy_l (zy_l (zy_r (zy_r (zy_r (zy_l (zy_t (zy_t (zy_t (zy_t zy_h)))))))))))))))))) (zy_c (zy_t (zy_l (zy_l (zy_l (zy_l (zy_l (zy_l (zy_l (zy_l (zy_l (zy_r (zy_r (zy_r (zy_l (zy_t (zy_t (zy_t (zy_t (zy_t zy_h))))))))))))))))))) (zy_c (zy_t (zy_l (zy_l (zy_l (zy_l (zy_l (zy_l (zy_l (zy_l (zy_l (zy_r (zy_r (zy_r (zy_l (zy_t (zy_t (zy_t (zy_t (zy_t (zy_t zy_h)))))))))))))))))))) (zy_c (zy_t (zy_l (zy_l (zy_l (zy_l (zy_l (zy_l (zy_l (zy_l (zy_l (zy_r (zy_r (zy_r (zy_l (zy_t (zy_t (zy_t (zy_t (zy_t (zy_t (zy_t zy_h))))))))))))))))))))) (zy_c (zy_t (zy_l (zy_l (zy_l (zy_l (zy_l (zy_l (zy_l (zy_l (zy_l (zy_r (zy_r (zy_r (zy_l (zy_t (zy_t (zy_t (zy_t (zy_t (zy_t (zy_t (zy_t zy_h)))))))))))))))))))))) (zy_c (zy_t (zy_l (zy_l (zy_l (zy_l (zy_l (zy_l (zy_l (zy_l (zy_l (zy_r (zy_r (zy_r (zy_l (zy_t (zy_t (zy_t (zy_t (zy_t (zy_t (zy_t (zy_t (zy_t zy_h))))))))))))))))))))))) (zy_c (zy_t (zy_l (zy_l (zy_l (zy_l (zy_l (zy_l (zy_l (zy_l (zy_l (zy_r (zy_r (zy_r (zy_l (zy_t (zy_t (zy_t (zy_t (zy_t (zy_t (zy_t (zy_t (zy_t (zy_t zy_h)))))))))))))))))))))))) (zy_c (zy_t (zy_l (zy_l (zy_l (zy_l (zy_l (zy_l (zy_l (zy_l (zy_l (zy_r (zy_r (zy_r (zy_l (zy_t (zy_t (zy_t (zy_t (zy_t (zy_t (zy_t (zy_t (zy_t (zy_t (zy_t zy_h))))))))))))))))))))))))) (zy_c (zy_t (zy_l (zy_l (zy_l (zy_l (zy_l (zy_l (zy_l (zy_l (zy_l (zy_r (zy_r (zy_r (zy_l (zy_t (zy_t (zy_t (zy_t (zy_t (zy_t (zy_t (zy_t (zy_t (zy_t (zy_t (zy_t zy_h)))))))))))))))))))))))))) (zy_c (zy_t (zy_l (zy_l (zy_l (zy_l (zy_l (zy_l (zy_l (zy_l (zy_l (zy_r (zy_r (zy_r (zy_l (zy_t (zy_t (zy_t (zy_t (zy_t (zy_t (zy_t (zy_t (zy_t (zy_t (zy_t (zy_t (zy_t zy_h))))))))))))))))))))))))))) (zy_c (zy_t (zy_l (zy_l (zy_l (zy_l (zy_l (zy_l (zy_l (zy_l (zy_l (zy_r (zy_r (zy_r (zy_l (zy_t (zy_t (zy_t (zy_t (zy_t (zy_t (zy_t (zy_t (zy_t (zy_t (zy_t (zy_t (zy_t (zy_t zy_h)))))))))))))))))))))))))))) (zy_c (zy_t (zy_l (zy_l (zy_l (zy_l (zy_l (zy_l (zy_l (zy_l (zy_l (zy_r (zy_r (zy_r (zy_l (zy_t (zy_t (zy_t (zy_t (zy_t (zy_t (zy_t (zy_t (zy_t (zy_t (zy_t (zy_t (zy_t (zy_t (zy_t zy_h))))))))))))))))))))))))))))) (zy_c (zy_t (zy_l (zy_l (zy_l (zy_l (zy_l (zy_l (zy_l (zy_l (zy_l (zy_r (zy_r (zy_r (zy_l (zy_t (zy_t (zy_t (zy_t (zy_t (zy_t (zy_t (zy_t (zy_t (zy_t (zy_t (zy_t (zy_t (zy_t (zy_t (zy_t zy_h)))))))))))))))))))))))))))))) (zy_c (zy_t (zy_l (zy_l (zy_l (zy_l (zy_l (zy_l (zy_l (zy_l (zy_l (zy_r (zy_r (zy_r (zy_l (zy_t (zy_t (zy_t (zy_t (zy_t (zy_t (zy_t (zy_t (zy_t (zy_t (zy_t (zy_t (zy_t (zy_t (zy_t (zy_t (zy_t zy_h))))))))))))))))))))))))))))))) (zy_c (zy_t (zy_l (zy_l (zy_l (zy_l (zy_l (zy_l (zy_l (zy_l (zy_l (zy_r (zy_r (zy_r (zy_l (zy_t (zy_t (zy_t (zy_t (zy_t (zy_t (zy_t (zy_t (zy_t (zy_t (zy_t (zy_t (zy_t (zy_t (zy_t (zy_t (zy_t (zy_t zy_h)))))))))))))))))))))))))))))))) zy_n)))))))))))))))))) (zy_p (fun _ h => (zy_t (zy_l (zy_l (zy_l (zy_l (zy_l (zy_l (zy_r h))))))))))) (zy_p (fun _ h => (zy_t (zy_l (zy_l (zy_l (zy_l (zy_l (zy_r h)))))))))) (zy_p (fun _ h => (zy_t (zy_l (zy_l (zy_l (zy_l (zy_r h))))))))) (zy_p (fun _ h => (zy_t (zy_l (zy_l (zy_l (zy_r h)))))))) (zy_p (fun _ h => (zy_t (zy_l (zy_l (zy_r h))))))) (zy_p (fun _ h => (zy_t (zy_l (zy_l (zy_l (zy_l (zy_l (zy_l (zy_l (zy_l (zy_r h))))))))))))) (zy_p (fun _ h => (zy_t (zy_l (zy_r h)))))) (zy_p (fun _ h => (zy_t (zy_r h))))) (zy_p (fun _ h => (zy_t (zy_l (zy_l (zy_l (zy_l (zy_l (zy_l (zy_l (zy_r h)))))))))))))) (by decide +kernel) | exact goodIn_r _ [34, 35, 36, 37, 38, 39, 40, 41, 42, 43, 44, 45, 46, 10, 47, 12, 48, 49, 50, 51, 52, 53, 54, 55, 56, 22, 17, 57, 58, 59, 60, 61, 62, 63, 64, 65, 66, 67, 68, 69, 70, 71, 72, 73, 74, 19, 20, 21, 75, 76, 77, 78, 79, 80, 81, 82, 83, 84, 85, 86, 87, 88, 89, 90, 91, 115, 116, 117, 118, 119, 120, 121, 122, 123, 124, 125, 126, 127, 128, 109, 110, 129, 130, 131, 132, 133, 134, 135, 136, 137, 138, 139, 140, 111, 112, 113, 114] (by decide +kernel) (by decide +kernel)
set_option maxRecDepth 20000 in
theorem gX6_take_X6_takeFirst : GoodIn wsX6_take (wsV RX6 28 RX6 yX6_takeFirst wsX6_takeFirst) := by first | exact goodIn_app (goodIn_sub (show zy_S _ wsX6_take from (zy_c (zy_t (zy_l (zy_l (zy_l (zy_l (zy_l (zy_l (zy_l (zy_l (zy_l (zy_r (zy_l (zy_t (zy_t (zy_t (zy_t (zy_t (zy_t zy_h)))))))))))))))))) (zy_c (zy_t (zy_l (zy_l (zy_l (zy_l (zy_l (zy_l (zy_l (zy_l (zy_l (zy_r (zy_l (zy_t (zy_t (zy_t (zy_t (zy_t (zy_t (zy_t zy_h))))))))))))))))))) (zy_c (zy_t (zy_l (zy_l (zy_l (zy_l (zy_l (zy_l (zy_l (zy_l (zy_l (zy_r (zy_l (zy_t (zy_t (zy_t (zy_t (zy_t (zy_t (zy_t (zy_t zy_h)))))))))))))))))))) (zy_c (zy_t (zy_l (zy_l (zy_l (zy_l (zy_l (zy_l (zy_l (zy_l (zy_l (zy_l (zy_t (zy_t (zy_t zy_h)))))))))))))) zy_n))))) (by decide +kernel)) ggX6_take_X6_takeFirst | exact goodIn_app (goodIn_of _ (by decide +kernel)) ggX6_take_X6_takeFirst
set_option maxRecDepth 20000 in
theorem ggX6_take_X6_emptyRows : GoodIn wsX6_take wsX6_emptyRows := by first | exact goodIn_sub (show zy_S _ wsX6_take from (zy_c (zy_t (zy_l (zy_l (zy_l (zy_l (zy_l (zy_l (zy_l (zy_l (zy_l (zy_r (zy_r (zy_r (zy_l (zy_t (zy_t (zy_t (zy_t (zy_t (zy_t (zy_t (zy_t (zy_t (zy_t (zy_t (zy_t (zy_t (zy_t (zy_t (zy_t (zy_t (zy_t (zy_t (zy_t (zy_t (zy_t zy_h)))))))))))))))))))))))))))))))))))) (zy_a (zy_a (zy_a (zy_a (zy_a (zy_a (zy_a (zy_a (zy_a (zy_a (zy_c (zy_t (zy_l (zy_l (zy_l (zy_l (zy_l (zy_l (zy_l (zy_l (zy_l (zy_l (zy_t (zy_t (zy_t (zy_t (zy_t zy_h)))))))))))))))) (zy_c (zy_t (zy_l (zy_l (zy_l (zy_l (zy_l (zy_l (zy_l (zy_l (zy_l (zy_r (zy_l (zy_t (zy_t (zy_t (zy_t (zy_t (zy_t (zy_t (zy_t (zy_t (zy_t zy_h)))))))))))))))))))))) (zy_c (zy_t (zy_l (zy_l (zy_l (zy_l (zy_l (zy_l (zy_l (zy_l (zy_l (zy_r (zy_l (zy_t (zy_t (zy_t (zy_t (zy_t (zy_t (zy_t (zy_t (zy_t (zy_t (zy_t zy_h))))))))))))))))))))))) (zy_c (zy_t (zy_l (zy_l (zy_l (zy_l (zy_l (zy_l (zy_l (zy_l (zy_l (zy_l (zy_t (zy_t (zy_t (zy_t (zy_t (zy_t zy_h))))))))))))))))) (zy_c (zy_t (zy_l (zy_l (zy_l (zy_l (zy_l (zy_l (zy_l (zy_l (zy_l (zy_l (zy_t (zy_t (zy_t (zy_t (zy_t (zy_t (zy_t zy_h)))))))))))))))))) (zy_c (zy_t (zy_l (zy_l (zy_l (zy_l (zy_l (zy_l (zy_l (zy_l (zy_l (zy_l (zy_t (zy_t (zy_t (zy_t (zy_t (zy_t (zy_t (zy_t zy_h))))))))))))))))))) (zy_c (zy_t (zy_l (zy_l (zy_l (zy_l (zy_l (zy_l (zy_l (zy_l (zy_l (zy_l (zy_t (zy_t (zy_t (zy_t (zy_t (zy_t (zy_t (zy_t (zy_t zy_h)))))))))))))))))))) (zy_c (zy_t (zy_l (zy_l (zy_l (zy_l (zy_l (zy_l (zy_l (zy_l (zy_l (zy_l (zy_t (zy_t (zy_t (zy_t (zy_t (zy_t (zy_t (zy_t (zy_t (zy_t zy_h))))))))))))))))))))) (zy_c (zy_t (zy_l (zy_l (zy_l (zy_l (zy_l (zy_l (zy_l (zy_l (zy_l (zy_l (zy_t (zy_t (zy_t (zy_t (zy_t (zy_t (zy_t (zy_t (zy_t (zy_t (zy_t zy_h)))))))))))))))))))))) (zy_c (zy_t (zy_l (zy_l (zy_l (zy_l (zy_l (zy_l (zy_l (zy_l (zy_l (zy_l (zy_t (zy_t (zy_t (zy_t (zy_t (zy_t (zy_t (zy_t (zy_t (zy_t (zy_t (zy_t (zy_t (zy_t (zy_t (zy_t (zy_t zy_h)))))))))))))))))))))))))))) (zy_c (zy_t (zy_l (zy_l (zy_l (zy_l (zy_l (zy_l (zy_l (zy_l (zy_l (zy_l (zy_t (zy_t (zy_t (zy_t (zy_t (zy_t (zy_t (zy_t (zy_t (zy_t (zy_t (zy_t (zy_t (zy_t (zy_t (zy_t (zy_t (zy_t zy_h))))))))))))))))))))))))))))) (zy_c (zy_t (zy_l (zy_l (zy_l (zy_l (zy_l (zy_l (zy_l (zy_l (zy_l (zy_l (zy_t (zy_t (zy_t (zy_t (zy_t (zy_t (zy_t (zy_t (zy_t (zy_t (zy_t (zy_t (zy_t (zy_t (zy_t (zy_t (zy_t (zy_t (zy_t zy_h)))))))))))))))))))))))))))))) (zy_c (zy_t (zy_l (zy_l (zy_l (zy_l (zy_l (zy_l (zy_l (zy_l (zy_l (zy_l (zy_t (zy_t (zy_t (zy_t (zy_t (zy_t (zy_t (zy_t (zy_t (zy_t (zy_t (zy_t (zy_t (zy_t (zy_t (zy_t (zy_t (zy_t (zy_t (zy_t zy_h))))))))))))))))))))))))))))))) (zy_c (zy_t (zy_l (zy_l (zy_l (zy_l (zy_l (zy_l (zy_l (zy_l (zy_l (zy_l (zy_t (zy_t (zy_t (zy_t (zy_t (zy_t (zy_t (zy_t (zy_t (zy_t (zy_t (zy_t (zy_t (zy_t (zy_t (zy_t (zy_t (zy_t (zy_t (zy_t (zy_t zy_h)))))))))))))))))))))))))))))))) (zy_c (zy_t (zy_l (zy_l (zy_l (zy_l (zy_l (zy_l (zy_l (zy_l (zy_l (zy_l (zy_t (zy_t (zy_t (zy_t (zy_t (zy_t (zy_t (zy_t (zy_t (zy_t (zy_t (zy_t zy_h))))))))))))))))))))))) (zy_c (zy_t (zy_l (zy_l (zy_l (zy_l (zy_l (zy_l (zy_l (zy_l (zy_l (zy_l (zy_t (zy_t (zy_t (zy_t (zy_t (zy_t (zy_t (zy_t (zy_t (zy_t (zy_t (zy_t (zy_t zy_h)))))))))))))))))))))))) (zy_c (zy_t (zy_l (zy_l (zy_l (zy_l (zy_l (zy_l (zy_l (zy_l (zy_l (zy_l (zy_t (zy_t (zy_t (zy_t (zy_t (zy_t (zy_t (zy_t (zy_t (zy_t (zy_t (zy_t (zy_t (zy_t zy_h))))))))))))))))))))))))) (zy_c (zy_t (zy_l (zy_l (zy_l (zy_l (zy_l (zy_l (zy_l (zy_l (zy_l (zy_l (zy_t (zy_t (zy_t (zy_t (zy_t (zy_t (zy_t (zy_t (zy_t (zy_t (zy_t (zy_t (zy_t (zy_t (zy_t zy_h)))))))))))))))))))))))))) (zy_c (zy_t (zy_l (zy_l (zy_l (zy_l (zy_l (zy_l (zy_l (zy_l (zy_l (zy_l (zy_t (zy_t (zy_t (zy_t (zy_t (zy_t (zy_t (zy_t (zy_t (zy_t (zy_t (zy_t (zy_t (zy_t (zy_t (zy_t zy_h))))))))))))))))))))))))))) (zy_c (zy_t (zy_l (zy_l (zy_l (zy_l (zy_l (zy_l (zy_l (zy_l (zy_l (zy_r (zy_r (zy_r (zy_l (zy_t (zy_t (zy_t (zy_t (zy_t (zy_t (zy_t (zy_t (zy_t (zy_t (zy_t (zy_t (zy_t (zy_t (zy_t (zy_t (zy_t (zy_t (zy_t (zy_t (zy_t (zy_t (zy_t zy_h))))))))))))))))))))))))))))))))))))) (zy_c (zy_t (zy_l (zy_l (zy_l (zy_l (zy_l (zy_l (zy_l (zy_l (zy_l (zy_r (zy_r (zy_r (zy_r zy_h)))))))))))))) (zy_c (zy_t (zy_l (zy_l (zy_l (zy_l (zy_l (zy_l (zy_l (zy_l (zy_l (zy_r (zy_r (zy_r (zy_r (zy_t zy_h))))))))))))))) (zy_c (zy_t (zy_l (zy_l (zy_l (zy_l (zy_l (zy_l (zy_l (zy_l (zy_l (zy_r (zy_l (zy_t (zy_t (zy_t (zy_t (zy_t (zy_t (zy_t (zy_t (zy_t (zy_t (zy_t (zy_t (zy_t (zy_t (zy_t zy_h))))))))))))))))))))))))))) (zy_c (zy_t (zy_l (zy_l (zy_l (zy_l (zy_l (zy_l (zy_l (zy_l (zy_l (zy_r (zy_r (zy_r (zy_r (zy_t (zy_t zy_h)))))))))))))))) zy_n)))))))))))))))))))))))) (zy_c (zy_t (zy_l (zy_l (zy_l (zy_l (zy_l (zy_l (zy_l (zy_l (zy_l (zy_r (zy_r (zy_r (zy_r (zy_t (zy_t (zy_t zy_h))))))))))))))))) (zy_c (zy_t (zy_l (zy_l (zy_l (zy_l (zy_l (zy_l (zy_l (zy_l (zy_l (zy_r (zy_r (zy_r (zy_r (zy_t (zy_t (zy_t (zy_t zy_h)))))))))))))))))) (zy_c (zy_t (zy_l (zy_l (zy_l (zy_l (zy_l (zy_l (zy_l (zy_l (zy_l (zy_r (zy_r (zy_r (zy_r (zy_t (zy_t (zy_t (zy_t (zy_t zy_h))))))))))))))))))) (zy_c (zy_t (zy_l (zy_l (zy_l (zy_l (zy_l (zy_l (zy_l (zy_l (zy_l (zy_r (zy_r (zy_r (zy_r (zy_t (zy_t (zy_t (zy_t (zy_t (zy_t zy_h)))))))))))))))))))) (zy_c (zy_t (zy_l (zy_l (zy_l (zy_l (zy_l (zy_l (zy_l (zy_l (zy_l (zy_r (zy_l (zy_t (zy_t (zy_t (zy_t (zy_t (zy_t (zy_t (zy_t (zy_t (zy_t (zy_t (zy_t (zy_t (zy_t (zy_t (zy_t (zy_t (zy_t zy_h)))))))))))))))))))))))))))))) (zy_c (zy_t (zy_l (zy_l (zy_l (zy_l (zy_l (zy_l (zy_l (zy_l (zy_l (zy_r (zy_r (zy_r (zy_r (zy_t (zy_t (zy_t (zy_t (zy_t (zy_t (zy_t zy_h))))))))))))))))))))) (zy_c (zy_t (zy_l (zy_l (zy_l (zy_l (zy_l (zy_l (zy_l (zy_l (zy_l (zy_r (zy_r (zy_r (zy_r (zy_t (zy_t (zy_t (zy_t (zy_t (zy_t (zy_t (zy_t zy_h)))))))))))))))))))))) (zy_c (zy_t (zy_l (zy_l (zy_l (zy_l (zy_l (zy_l (zy_l (zy_l (zy_l (zy_r (zy_r (zy_l (zy_t (zy_t (zy_t (zy_t (zy_t (zy_t (zy_t (zy_t (zy_t (zy_t (zy_t (zy_t (zy_t (zy_t (zy_t (zy_t (zy_t (zy_t (zy_t zy_h)))))))))))))))))))))))))))))))) (zy_c (zy_t (zy_l (zy_l (zy_l (zy_l (zy_l (zy_l (zy_l (zy_l (zy_l (zy_r (zy_r (zy_r (zy_r (zy_t (zy_t (zy_t (zy_t (zy_t (zy_t (zy_t (zy_t (zy_t zy_h))))))))))))))))))))))) (zy_c (zy_t (zy_l (zy_l (zy_l (zy_l (zy_l (zy_l (zy_l (zy_l (zy_l (zy_r (zy_r (zy_r (zy_r (zy_t (zy_t (zy_t (zy_t (zy_t (zy_t (zy_t (zy_t (zy_t (zy_t zy_h)))))))))))))))))))))))) (zy_c (zy_t (zy_l (zy_l (zy_l (zy_l (zy_l (zy_l (zy_l (zy_l (zy_l (zy_r (zy_r (zy_l (zy_t (zy_t (zy_t (zy_t (zy_t (zy_t (zy_t (zy_t (zy_t (zy_t (zy_t (zy_t (zy_t (zy_t (zy_t (zy_t (zy_t (zy_t zy_h))))))))))))))))))))))))))))))) (zy_c (zy_t (zy_l (zy_l (zy_l (zy_l (zy_l (zy_l (zy_l (zy_l (zy_l (zy_r (zy_r (zy_l (zy_t (zy_t (zy_t (zy_t (zy_t (zy_t (zy_t (zy_t (zy_t (zy_t (zy_t (zy_t (zy_t (zy_t (zy_t (zy_t (zy_t (zy_t (zy_t (zy_t zy_h))))))))))))))))))))))))))))))))) (zy_c (zy_t (zy_l (zy_l (zy_l (zy_l (zy_l (zy_l (zy_l (zy_l (zy_l (zy_r (zy_r (zy_l (zy_t (zy_t (zy_t zy_h)))))))))))))))) (zy_c (zy_t (zy_l (zy_l (zy_l (zy_l (zy_l (zy_l (zy_l (zy_l (zy_l (zy_r (zy_r (zy_r (zy_r (zy_t (zy_t (zy_t (zy_t (zy_t (zy_t (zy_t (zy_t (zy_t (zy_t (zy_t zy_h))))))))))))))))))))))))) (zy_c (zy_t (zy_l (zy_l (zy_l (zy_l (zy_l (zy_l (zy_l (zy_l (zy_l (zy_r (zy_l (zy_t (zy_t (zy_t (zy_t (zy_t (zy_t (zy_t (zy_t (zy_t (zy_t (zy_t (zy_t (zy_t (zy_t (zy_t (zy_t (zy_t (zy_t (zy_t (zy_t zy_h)))))))))))))))))))))))))))))))) (zy_c (zy_t (zy_l (zy_l (zy_l (zy_l (zy_l (zy_l (zy_l (zy_l (zy_l (zy_r (zy_l (zy_t (zy_t (zy_t (zy_t (zy_t (zy_t (zy_t (zy_t (zy_t (zy_t (zy_t (zy_t (zy_t (zy_t (zy_t (zy_t (zy_t (zy_t (zy_t (zy_t (zy_t zy_h))))))))))))))))))))))))))))))))) (zy_c (zy_t (zy_l (zy_l (zy_l (zy_l (zy_l (zy_l (zy_l (zy_l (zy_l (zy_r (zy_l (zy_t (zy_t (zy_t (zy_t (zy_t (zy_t (zy_t (zy_t (zy_t (zy_t (zy_t (zy_t (zy_t (zy_t (zy_t (zy_t (zy_t (zy_t (zy_t (zy_t (zy_t (zy_t zy_h)))))))))))))))))))))))))))))))))) zy_n)))))))))))))))))) (zy_p (fun _ h => (zy_t (zy_l (zy_l (zy_l (zy_l (zy_l (zy_l (zy_l (zy_l (zy_r h))))))))))))) (zy_p (fun _ h => (zy_t (zy_l (zy_l (zy_l (zy_l (zy_l (zy_l (zy_r h))))))))))) (zy_p (fun _ h => (zy_t (zy_l (zy_l (zy_l (zy_l (zy_l (zy_r h)))))))))) (zy_p (fun _ h => (zy_t (zy_l (zy_l (zy_l (zy_l (zy_r h))))))))) (zy_p (fun _ h => (zy_t (zy_l (zy_l (zy_l (zy_r h)))))))) (zy_p (fun _ h => (zy_t (zy_l (zy_l (zy_r h))))))) (zy_p (fun _ h => (zy_t (zy_l (zy_r h)))))) (zy_p (fun _ h => (zy_t (zy_l (zy_l (zy_l (zy_l (zy_l (zy_l (zy_l (zy_r h)))))))))))) (zy_p (fun _ h => (zy_t (zy_r h))))))) (by decide +kernel) | exact goodIn_r _ [95, 6, 35, 36, 7, 8, 9, 10, 11, 12, 18, 19, 20, 21, 22, 13, 14, 15, 16, 17, 96, 97, 98, 40, 99, 100, 101, 102, 103, 43, 104, 105, 68, 106, 107, 67, 69, 52, 108, 45, 46, 47, 109, 110, 115, 116, 117, 118, 119, 120, 121, 122, 123, 124, 125, 126, 127, 128, 129, 130, 111, 112, 113, 114, 131, 132, 133, 134, 135, 136, 137, 138, 139, 140] (by decide +kernel) (by decide +kernel)
set_option maxRecDepth 20000 in
theorem gX6_take_X6_emptyRows : GoodIn wsX6_take (wsV RX6 31 RX6 yX6_emptyRows wsX6_emptyRows) := by first | exact goodIn_app (goodIn_sub (show zy_S _ wsX6_take from (zy_c (zy_t (zy_l (zy_l (zy_l (zy_l (zy_l (zy_l (zy_l (zy_l (zy_l (zy_r (zy_r (zy_r (zy_l (zy_t (zy_t (zy_t (zy_t (zy_t (zy_t (zy_t (zy_t (zy_t (zy_t (zy_t (zy_t (zy_t (zy_t (zy_t (zy_t (zy_t (zy_t (zy_t zy_h))))))))))))))))))))))))))))))))) (zy_c (zy_t (zy_l (zy_l (zy_l (zy_l (zy_l (zy_l (zy_l (zy_l (zy_l (zy_r (zy_r (zy_r (zy_l (zy_t (zy_t (zy_t (zy_t (zy_t (zy_t (zy_t (zy_t (zy_t (zy_t (zy_t (zy_t (zy_t (zy_t (zy_t (zy_t (zy_t (zy_t (zy_t (zy_t zy_h)))))))))))))))))))))))))))))))))) (zy_c (zy_t (zy_l (zy_l (zy_l (zy_l (zy_l (zy_l (zy_l (zy_l (zy_l (zy_r (zy_r (zy_r (zy_l (zy_t (zy_t (zy_t (zy_t (zy_t (zy_t (zy_t (zy_t (zy_t (zy_t (zy_t (zy_t (zy_t (zy_t (zy_t (zy_t (zy_t (zy_t (zy_t (zy_t (zy_t zy_h))))))))))))))))))))))))))))))))))) (zy_c (zy_t (zy_l (zy_l (zy_l (zy_l (zy_l (zy_l (zy_l (zy_l (zy_l (zy_l (zy_t (zy_t (zy_t zy_h)))))))))))))) zy_n))))) (by decide +kernel)) ggX6_take_X6_emptyRows | exact goodIn_app (goodIn_of _ (by decide +kernel)) ggX6_take_X6_emptyRows
theorem dX6_take_0 : decode cX6_take 0 = .ok (.aload_n 0, 1) := by decide +kernel
theorem dX6_take_1 : decode cX6_take 1 = .ok (.iload_n 1, 1) := by decide +kernel
theorem dX6_take_2 : decode cX6_take 2 = .ok (.invokevirtual 24, 3) := by decide +kernel
theorem dX6_take_5 : decode cX6_take 5 = .ok (.istore_n 2, 1) := by decide +kernel
theorem dX6_take_6 : decode cX6_take 6 = .ok (.iload_n 2, 1) := by decide +kernel
theorem dX6_take_7 : decode cX6_take 7 = .ok (.iconst (-1), 1) := by decide +kernel
theorem dX6_take_8 : decode cX6_take 8 = .ok (.if_icmp .ne 9, 3) := by decide +kernel
theorem dX6_take_11 : decode cX6_take 11 = .ok (.aload_n 0, 1) := by decide +kernel
theorem dX6_take_12 : decode cX6_take 12 = .ok (.iload_n 1, 1) := by decide +kernel
theorem dX6_take_13 : decode cX6_take 13 = .ok (.invokevirtual 28, 3) := by decide +kernel
theorem dX6_take_16 : decode cX6_take 16 = .ok (.istore_n 2, 1) := by decide +kernel
theorem dX6_take_17 : decode cX6_take 17 = .ok (.iload_n 2, 1) := by decide +kernel
theorem dX6_take_18 : decode cX6_take 18 = .ok (.iconst (-1), 1) := by decide +kernel
theorem dX6_take_19 : decode cX6_take 19 = .ok (.if_icmp .ne 13, 3) := by decide +kernel
theorem dX6_take_22 : decode cX6_take 22 = .ok (.aload_n 0, 1) := by decide +kernel
theorem dX6_take_23 : decode cX6_take 23 = .ok (.invokevirtual 31, 3) := by decide +kernel
theorem dX6_take_26 : decode cX6_take 26 = .ok (.aload_n 0, 1) := by decide +kernel
theorem dX6_take_27 : decode cX6_take 27 = .ok (.iload_n 1, 1) := by decide +kernel
theorem dX6_take_28 : decode cX6_take 28 = .ok (.invokevirtual 28, 3) := by decide +kernel
theorem dX6_take_31 : decode cX6_take 31 = .ok (.istore_n 2, 1) := by decide +kernel
theorem dX6_take_32 : decode cX6_take 32 = .ok (.iload_n 2, 1) := by decide +kernel
theorem dX6_take_33 : decode cX6_take 33 = .ok (.ireturn, 1) := by decide +kernel
set_option maxRecDepth 20000 in
theorem ggX6_takeQuick_X10_size : GoodIn wsX6_takeQuick wsX10_size := by first | exact goodIn_sub (show zy_S _ wsX6_takeQuick from (zy_c (zy_t (zy_l (zy_l (zy_l (zy_t (zy_t (zy_t (zy_t (zy_t zy_h))))))))) (zy_a (zy_c (zy_t (zy_l (zy_l (zy_l (zy_t (zy_t (zy_t (zy_t (zy_t (zy_t zy_h)))))))))) zy_n) (zy_p (fun _ h => (zy_t (zy_r h))))))) (by decide +kernel) | exact goodIn_r _ [6, 7, 28, 29, 30, 31] (by decide +kernel) (by decide +kernel)
set_option maxRecDepth 20000 in
theorem gX6_takeQuick_X10_size : GoodIn wsX6_takeQuick (wsV RX6 34 RX10 yX10_size wsX10_size) := by first | exact goodIn_app (goodIn_sub (show zy_S _ wsX6_takeQuick from (zy_c (zy_t (zy_l (zy_l (zy_l (zy_t zy_h))))) (zy_c (zy_t (zy_l (zy_l (zy_l (zy_t (zy_t zy_h)))))) (zy_c (zy_t (zy_l (zy_l (zy_l (zy_t (zy_t (zy_t zy_h))))))) (zy_c (zy_t (zy_l (zy_l (zy_l (zy_t (zy_t (zy_t (zy_t zy_h)))))))) zy_n))))) (by decide +kernel)) ggX6_takeQuick_X10_size | exact goodIn_app (goodIn_of _ (by decide +kernel)) ggX6_takeQuick_X10_size
set_option maxRecDepth 20000 in
theorem ggX6_takeQuick_X10_wordsOf : GoodIn wsX6_takeQuick wsX10_wordsOf := by first | exact goodIn_sub (show zy_S _ wsX6_takeQuick from (zy_c (zy_t (zy_l (zy_l (zy_l (zy_t (zy_t (zy_t (zy_t (zy_t (zy_t (zy_t (zy_t (zy_t (zy_t zy_h)))))))))))))) (zy_a (zy_c (zy_t (zy_l (zy_l (zy_l (zy_t (zy_t (zy_t (zy_t (zy_t (zy_t zy_h)))))))))) (zy_c (zy_t (zy_l (zy_l (zy_l (zy_t (zy_t (zy_t (zy_t (zy_t (zy_t (zy_t (zy_t (zy_t (zy_t (zy_t zy_h))))))))))))))) zy_n)) (zy_p (fun _ h => (zy_t (zy_r h))))))) (by decide +kernel) | exact goodIn_r _ [11, 7, 12, 28, 29, 30, 31] (by decide +kernel) (by decide +kernel)
set_option maxRecDepth 20000 in
theorem gX6_takeQuick_X10_wordsOf : GoodIn wsX6_takeQuick (wsV RX6 38 RX10 yX10_wordsOf wsX10_wordsOf) := by first | exact goodIn_app (goodIn_sub (show zy_S _ wsX6_takeQuick from (zy_c (zy_t (zy_l (zy_l (zy_l (zy_t (zy_t (zy_t (zy_t (zy_t (zy_t (zy_t zy_h))))))))))) (zy_c (zy_t (zy_l (zy_l (zy_l (zy_t (zy_t (zy_t (zy_t (zy_t (zy_t (zy_t (zy_t zy_h)))))))))))) (zy_c (zy_t (zy_l (zy_l (zy_l (zy_t (zy_t (zy_t (zy_t (zy_t (zy_t (zy_t (zy_t (zy_t zy_h))))))))))))) (zy_c (zy_t (zy_l (zy_l (zy_l (zy_t (zy_t (zy_t (zy_t zy_h)))))))) zy_n))))) (by decide +kernel)) ggX6_takeQuick_X10_wordsOf | exact goodIn_app (goodIn_of _ (by decide +kernel)) ggX6_takeQuick_X10_wordsOf
set_option maxRecDepth 20000 in
theorem ggX6_takeQuick_X10_placeOf : GoodIn wsX6_takeQuick wsX10_placeOf := by first | exact goodIn_sub (show zy_S _ wsX6_takeQuick from (zy_c (zy_t (zy_l (zy_l (zy_l (zy_t (zy_t (zy_t (zy_t (zy_t (zy_t (zy_t (zy_t (zy_t (zy_t (zy_t (zy_t (zy_t (zy_t (zy_t zy_h))))))))))))))))))) (zy_a (zy_c (zy_t (zy_l (zy_l (zy_l (zy_t (zy_t (zy_t (zy_t (zy_t (zy_t zy_h)))))))))) (zy_c (zy_t (zy_l (zy_l (zy_l (zy_t (zy_t (zy_t (zy_t (zy_t (zy_t (zy_t (zy_t (zy_t (zy_t (zy_t (zy_t (zy_t (zy_t (zy_t (zy_t zy_h)))))))))))))))))))) zy_n)) (zy_p (fun _ h => (zy_t (zy_r h))))))) (by decide +kernel) | exact goodIn_r _ [16, 7, 17, 28, 29, 30, 31] (by decide +kernel) (by decide +kernel)
set_option maxRecDepth 20000 in
theorem gX6_takeQuick_X10_placeOf : GoodIn wsX6_takeQuick (wsV RX6 41 RX10 yX10_placeOf wsX10_placeOf) := by first | exact goodIn_app (goodIn_sub (show zy_S _ wsX6_takeQuick from (zy_c (zy_t (zy_l (zy_l (zy_l (zy_t (zy_t (zy_t (zy_t (zy_t (zy_t (zy_t (zy_t (zy_t (zy_t (zy_t (zy_t zy_h)))))))))))))))) (zy_c (zy_t (zy_l (zy_l (zy_l (zy_t (zy_t (zy_t (zy_t (zy_t (zy_t (zy_t (zy_t (zy_t (zy_t (zy_t (zy_t (zy_t zy_h))))))))))))))))) (zy_c (zy_t (zy_l (zy_l (zy_l (zy_t (zy_t (zy_t (zy_t (zy_t (zy_t (zy_t (zy_t (zy_t (zy_t (zy_t (zy_t (zy_t (zy_t zy_h)))))))))))))))))) (zy_c (zy_t (zy_l (zy_l (zy_l (zy_t (zy_t (zy_t (zy_t zy_h)))))))) zy_n))))) (by decide +kernel)) ggX6_takeQuick_X10_placeOf | exact goodIn_app (goodIn_of _ (by decide +kernel)) ggX6_takeQuick_X10_placeOf
set_option maxRecDepth 20000 in
theorem ggX6_takeQuick_X10_remove : GoodIn wsX6_takeQuick wsX10_remove := by first | exact goodIn_sub (show zy_S _ wsX6_takeQuick from (zy_c (zy_t (zy_l (zy_l (zy_l (zy_t (zy_t (zy_t (zy_t (zy_t (zy_t (zy_t (zy_t (zy_t (zy_t (zy_t (zy_t (zy_t (zy_t (zy_t (zy_t (zy_t (zy_t (zy_t (zy_t zy_h)))))))))))))))))))))))) (zy_a (zy_c (zy_t (zy_l (zy_l (zy_l (zy_t (zy_t (zy_t (zy_t (zy_t (zy_t zy_h)))))))))) (zy_c (zy_t (zy_l (zy_l (zy_l (zy_t (zy_t (zy_t (zy_t (zy_t (zy_t (zy_t (zy_t (zy_t (zy_t (zy_t (zy_t (zy_t (zy_t (zy_t (zy_t zy_h)))))))))))))))))))) (zy_c (zy_t (zy_l (zy_l (zy_l (zy_t (zy_t (zy_t (zy_t (zy_t (zy_t (zy_t (zy_t (zy_t (zy_t (zy_t (zy_t (zy_t (zy_t (zy_t (zy_t (zy_t (zy_t (zy_t (zy_t (zy_t zy_h))))))))))))))))))))))))) (zy_c (zy_t (zy_l (zy_l (zy_l (zy_t (zy_t (zy_t (zy_t (zy_t (zy_t (zy_t (zy_t (zy_t (zy_t (zy_t (zy_t (zy_t (zy_t (zy_t (zy_t (zy_t (zy_t (zy_t (zy_t (zy_t (zy_t zy_h)))))))))))))))))))))))))) (zy_c (zy_t (zy_l (zy_l (zy_l (zy_t (zy_t (zy_t (zy_t (zy_t (zy_t (zy_t (zy_t (zy_t (zy_t (zy_t (zy_t (zy_t (zy_t (zy_t (zy_t (zy_t (zy_t (zy_t (zy_t (zy_t (zy_t (zy_t zy_h))))))))))))))))))))))))))) (zy_c (zy_t (zy_l (zy_l (zy_r zy_h)))) (zy_c (zy_t (zy_l (zy_l (zy_l (zy_t (zy_t (zy_t (zy_t (zy_t (zy_t (zy_t (zy_t (zy_t (zy_t (zy_t zy_h))))))))))))))) zy_n))))))) (zy_p (fun _ h => (zy_t (zy_r h))))))) (by decide +kernel) | exact goodIn_r _ [21, 7, 17, 22, 23, 24, 25, 12, 28, 29, 30, 31] (by decide +kernel) (by decide +kernel)
set_option maxRecDepth 20000 in
theorem gX6_takeQuick_X10_remove : GoodIn wsX6_takeQuick (wsV RX6 44 RX10 yX10_remove wsX10_remove) := by first | exact goodIn_app (goodIn_sub (show zy_S _ wsX6_takeQuick from (zy_c (zy_t (zy_l (zy_l (zy_l (zy_t (zy_t (zy_t (zy_t (zy_t (zy_t (zy_t (zy_t (zy_t (zy_t (zy_t (zy_t (zy_t (zy_t (zy_t (zy_t (zy_t zy_h))))))))))))))))))))) (zy_c (zy_t (zy_l (zy_l (zy_l (zy_t (zy_t (zy_t (zy_t (zy_t (zy_t (zy_t (zy_t (zy_t (zy_t (zy_t (zy_t (zy_t (zy_t (zy_t (zy_t (zy_t (zy_t zy_h)))))))))))))))))))))) (zy_c (zy_t (zy_l (zy_l (zy_l (zy_t (zy_t (zy_t (zy_t (zy_t (zy_t (zy_t (zy_t (zy_t (zy_t (zy_t (zy_t (zy_t (zy_t (zy_t (zy_t (zy_t (zy_t (zy_t zy_h))))))))))))))))))))))) (zy_c (zy_t (zy_l (zy_l (zy_l (zy_t (zy_t (zy_t (zy_t zy_h)))))))) zy_n))))) (by decide +kernel)) ggX6_takeQuick_X10_remove | exact goodIn_app (goodIn_of _ (by decide +kernel)) ggX6_takeQuick_X10_remove
theorem dX6_takeQuick_0 : decode cX6_takeQuick 0 = .ok (.aload_n 0, 1) := by decide +kernel
theorem dX6_takeQuick_1 : decode cX6_takeQuick 1 = .ok (.getfield 14, 3) := by decide +kernel
theorem dX6_takeQuick_4 : decode cX6_takeQuick 4 = .ok (.invokevirtual 34, 3) := by decide +kernel
theorem dX6_takeQuick_7 : decode cX6_takeQuick 7 = .ok (.iconst 1, 1) := by decide +kernel
theorem dX6_takeQuick_8 : decode cX6_takeQuick 8 = .ok (.isub, 1) := by decide +kernel
theorem dX6_takeQuick_9 : decode cX6_takeQuick 9 = .ok (.istore_n 2, 1) := by decide +kernel
theorem dX6_takeQuick_10 : decode cX6_takeQuick 10 = .ok (.iload_n 2, 1) := by decide +kernel
theorem dX6_takeQuick_11 : decode cX6_takeQuick 11 = .ok (.ifCond .lt 40, 3) := by decide +kernel
theorem dX6_takeQuick_14 : decode cX6_takeQuick 14 = .ok (.aload_n 0, 1) := by decide +kernel
theorem dX6_takeQuick_15 : decode cX6_takeQuick 15 = .ok (.getfield 14, 3) := by decide +kernel
theorem dX6_takeQuick_18 : decode cX6_takeQuick 18 = .ok (.iload_n 2, 1) := by decide +kernel
theorem dX6_takeQuick_19 : decode cX6_takeQuick 19 = .ok (.invokevirtual 38, 3) := by decide +kernel
theorem dX6_takeQuick_22 : decode cX6_takeQuick 22 = .ok (.iload_n 1, 1) := by decide +kernel
theorem dX6_takeQuick_23 : decode cX6_takeQuick 23 = .ok (.if_icmp .ne 22, 3) := by decide +kernel
theorem dX6_takeQuick_26 : decode cX6_takeQuick 26 = .ok (.aload_n 0, 1) := by decide +kernel
theorem dX6_takeQuick_27 : decode cX6_takeQuick 27 = .ok (.getfield 14, 3) := by decide +kernel
theorem dX6_takeQuick_30 : decode cX6_takeQuick 30 = .ok (.iload_n 2, 1) := by decide +kernel
theorem dX6_takeQuick_31 : decode cX6_takeQuick 31 = .ok (.invokevirtual 41, 3) := by decide +kernel
theorem dX6_takeQuick_34 : decode cX6_takeQuick 34 = .ok (.istore_n 3, 1) := by decide +kernel
theorem dX6_takeQuick_35 : decode cX6_takeQuick 35 = .ok (.aload_n 0, 1) := by decide +kernel
theorem dX6_takeQuick_36 : decode cX6_takeQuick 36 = .ok (.getfield 14, 3) := by decide +kernel
theorem dX6_takeQuick_39 : decode cX6_takeQuick 39 = .ok (.iload_n 2, 1) := by decide +kernel
theorem dX6_takeQuick_40 : decode cX6_takeQuick 40 = .ok (.invokevirtual 44, 3) := by decide +kernel
theorem dX6_takeQuick_43 : decode cX6_takeQuick 43 = .ok (.iload_n 3, 1) := by decide +kernel
theorem dX6_takeQuick_44 : decode cX6_takeQuick 44 = .ok (.ireturn, 1) := by decide +kernel
theorem dX6_takeQuick_45 : decode cX6_takeQuick 45 = .ok (.iinc 2 (-1), 3) := by decide +kernel
theorem dX6_takeQuick_48 : decode cX6_takeQuick 48 = .ok (.goto (-38), 3) := by decide +kernel
theorem dX6_takeQuick_51 : decode cX6_takeQuick 51 = .ok (.iconst (-1), 1) := by decide +kernel
theorem dX6_takeQuick_52 : decode cX6_takeQuick 52 = .ok (.ireturn, 1) := by decide +kernel
set_option maxRecDepth 20000 in
theorem ggX6_takeFirst_X7_listRuns : GoodIn wsX6_takeFirst wsX7_listRuns := by first | exact goodIn_sub (show zy_S _ wsX6_takeFirst from (zy_c (zy_t (zy_l (zy_l (zy_l (zy_l (zy_l (zy_l (zy_l (zy_l (zy_l (zy_l (zy_t (zy_t (zy_t (zy_t (zy_t (zy_t zy_h))))))))))))))))) (zy_a (zy_a (zy_c (zy_t (zy_l (zy_l (zy_l (zy_l (zy_l (zy_l (zy_l (zy_l (zy_l (zy_l (zy_t (zy_t (zy_t (zy_t (zy_t (zy_t (zy_t zy_h)))))))))))))))))) (zy_c (zy_t (zy_l (zy_l (zy_l (zy_l (zy_l (zy_l (zy_l (zy_l (zy_l (zy_l (zy_t (zy_t (zy_t (zy_t (zy_t (zy_t (zy_t (zy_t zy_h))))))))))))))))))) (zy_c (zy_t (zy_l (zy_l (zy_l (zy_l (zy_l (zy_l (zy_l (zy_l (zy_l (zy_l (zy_t (zy_t (zy_t (zy_t (zy_t (zy_t (zy_t (zy_t (zy_t zy_h)))))))))))))))))))) (zy_c (zy_t (zy_l (zy_l (zy_l (zy_l (zy_l (zy_l (zy_l (zy_l (zy_l (zy_l (zy_t (zy_t (zy_t (zy_t (zy_t (zy_t (zy_t (zy_t (zy_t (zy_t zy_h))))))))))))))))))))) (zy_c (zy_t (zy_l (zy_l (zy_l (zy_l (zy_l (zy_l (zy_l (zy_l (zy_l (zy_l (zy_t (zy_t (zy_t (zy_t (zy_t (zy_t (zy_t (zy_t (zy_t (zy_t (zy_t zy_h)))))))))))))))))))))) (zy_c (zy_t (zy_l (zy_l (zy_l (zy_l (zy_l (zy_l (zy_l (zy_l (zy_l (zy_l (zy_t (zy_t (zy_t (zy_t (zy_t (zy_t (zy_t (zy_t (zy_t (zy_t (zy_t (zy_t zy_h))))))))))))))))))))))) (zy_c (zy_t (zy_l (zy_l (zy_l (zy_l (zy_l (zy_l (zy_l (zy_l (zy_l (zy_l (zy_t (zy_t (zy_t (zy_t (zy_t (zy_t (zy_t (zy_t (zy_t (zy_t (zy_t (zy_t (zy_t zy_h)))))))))))))))))))))))) (zy_c (zy_t (zy_l (zy_l (zy_l (zy_l (zy_l (zy_l (zy_l (zy_l (zy_l (zy_l (zy_t (zy_t (zy_t (zy_t (zy_t (zy_t (zy_t (zy_t (zy_t (zy_t (zy_t (zy_t (zy_t (zy_t zy_h))))))))))))))))))))))))) (zy_c (zy_t (zy_l (zy_l (zy_l (zy_l (zy_l (zy_l (zy_l (zy_l (zy_l (zy_l (zy_t (zy_t (zy_t (zy_t (zy_t (zy_t (zy_t (zy_t (zy_t (zy_t (zy_t (zy_t (zy_t (zy_t (zy_t zy_h)))))))))))))))))))))))))) (zy_c (zy_t (zy_l (zy_l (zy_l (zy_l (zy_l (zy_l (zy_l (zy_l (zy_l (zy_l (zy_t (zy_t (zy_t (zy_t (zy_t (zy_t (zy_t (zy_t (zy_t (zy_t (zy_t (zy_t (zy_t (zy_t (zy_t (zy_t zy_h))))))))))))))))))))))))))) (zy_c (zy_t (zy_l (zy_l (zy_l (zy_l (zy_l (zy_l (zy_l (zy_l (zy_l (zy_l (zy_t (zy_t (zy_t (zy_t (zy_t (zy_t (zy_t (zy_t (zy_t (zy_t (zy_t (zy_t (zy_t (zy_t (zy_t (zy_t (zy_t zy_h)))))))))))))))))))))))))))) (zy_c (zy_t (zy_l (zy_l (zy_l (zy_l (zy_l (zy_l (zy_l (zy_l (zy_l (zy_l (zy_t (zy_t (zy_t (zy_t (zy_t zy_h)))))))))))))))) (zy_c (zy_t (zy_l (zy_l (zy_l (zy_l (zy_l (zy_l (zy_l (zy_l (zy_l (zy_l (zy_t (zy_t (zy_t (zy_t (zy_t (zy_t (zy_t (zy_t (zy_t (zy_t (zy_t (zy_t (zy_t (zy_t (zy_t (zy_t (zy_t (zy_t zy_h))))))))))))))))))))))))))))) (zy_c (zy_t (zy_l (zy_l (zy_l (zy_l (zy_l (zy_l (zy_l (zy_l (zy_l (zy_l (zy_t (zy_t (zy_t (zy_t (zy_t (zy_t (zy_t (zy_t (zy_t (zy_t (zy_t (zy_t (zy_t (zy_t (zy_t (zy_t (zy_t (zy_t (zy_t zy_h)))))))))))))))))))))))))))))) (zy_c (zy_t (zy_l (zy_l (zy_l (zy_l (zy_l (zy_l (zy_l (zy_l (zy_l (zy_l (zy_t (zy_t (zy_t (zy_t (zy_t (zy_t (zy_t (zy_t (zy_t (zy_t (zy_t (zy_t (zy_t (zy_t (zy_t (zy_t (zy_t (zy_t (zy_t (zy_t zy_h))))))))))))))))))))))))))))))) (zy_c (zy_t (zy_l (zy_l (zy_l (zy_l (zy_l (zy_l (zy_l (zy_l (zy_l (zy_l (zy_t (zy_t (zy_t (zy_t (zy_t (zy_t (zy_t (zy_t (zy_t (zy_t (zy_t (zy_t (zy_t (zy_t (zy_t (zy_t (zy_t (zy_t (zy_t (zy_t (zy_t zy_h)))))))))))))))))))))))))))))))) (zy_c (zy_t (zy_l (zy_l (zy_l (zy_l (zy_l (zy_l (zy_l (zy_l (zy_l (zy_l (zy_t (zy_t (zy_t (zy_t (zy_t (zy_t (zy_t (zy_t (zy_t (zy_t (zy_t (zy_t (zy_t (zy_t (zy_t (zy_t (zy_t (zy_t (zy_t (zy_t (zy_t (zy_t zy_h))))))))))))))))))))))))))))))))) (zy_c (zy_t (zy_l (zy_l (zy_l (zy_l (zy_l (zy_l (zy_l (zy_l (zy_l (zy_l (zy_t (zy_t (zy_t (zy_t (zy_t (zy_t (zy_t (zy_t (zy_t (zy_t (zy_t (zy_t (zy_t (zy_t (zy_t (zy_t (zy_t (zy_t (zy_t (zy_t (zy_t (zy_t (zy_t zy_h)))))))))))))))))))))))))))))))))) (zy_c (zy_t (zy_l (zy_l (zy_l (zy_l (zy_l (zy_l (zy_l (zy_l (zy_l (zy_r (zy_l zy_h)))))))))))) (zy_c (zy_t (zy_l (zy_l (zy_l (zy_l (zy_l (zy_l (zy_l (zy_l (zy_l (zy_r (zy_l (zy_t zy_h))))))))))))) zy_n)))))))))))))))))))) (zy_p (fun _ h => (zy_t (zy_l (zy_r h)))))) (zy_p (fun _ h => (zy_t (zy_r h))))))) (by decide +kernel) | exact goodIn_r _ [7, 8, 9, 10, 11, 12, 13, 14, 15, 16, 17, 18, 6, 19, 20, 21, 22, 23, 24, 25, 26, 83, 84, 85, 86, 87, 88, 89, 90, 91, 92, 93, 94, 95, 96] (by decide +kernel) (by decide +kernel)
set_option maxRecDepth 20000 in
theorem gX6_takeFirst_X7_listRuns : GoodIn wsX6_takeFirst (wsV RX6 51 RX7 yX7_listRuns wsX7_listRuns) := by first | exact goodIn_app (goodIn_sub (show zy_S _ wsX6_takeFirst from (zy_c (zy_t (zy_l (zy_l (zy_l (zy_l (zy_l (zy_l (zy_l (zy_l (zy_l (zy_l (zy_t (zy_t zy_h))))))))))))) (zy_c (zy_t (zy_l (zy_l (zy_l (zy_l (zy_l (zy_l (zy_l (zy_l (zy_l (zy_l (zy_t (zy_t (zy_t zy_h)))))))))))))) (zy_c (zy_t (zy_l (zy_l (zy_l (zy_l (zy_l (zy_l (zy_l (zy_l (zy_l (zy_l (zy_t (zy_t (zy_t (zy_t zy_h))))))))))))))) (zy_c (zy_t (zy_l (zy_l (zy_l (zy_l (zy_l (zy_l (zy_l (zy_l (zy_l (zy_l (zy_t (zy_t (zy_t (zy_t (zy_t zy_h)))))))))))))))) zy_n))))) (by decide +kernel)) ggX6_takeFirst_X7_listRuns | exact goodIn_app (goodIn_of _ (by decide +kernel)) ggX6_takeFirst_X7_listRuns
set_option maxRecDepth 20000 in
theorem ggX6_takeFirst_X10_find : GoodIn wsX6_takeFirst wsX10_find := by first | exact goodIn_sub (show zy_S _ wsX6_takeFirst from (zy_c (zy_t (zy_l (zy_l (zy_l (zy_l (zy_l (zy_l (zy_l (zy_l (zy_l (zy_r (zy_l (zy_t (zy_t (zy_t (zy_t (zy_t zy_h))))))))))))))))) (zy_a (zy_a (zy_c (zy_t (zy_l (zy_l (zy_l (zy_l (zy_l (zy_l (zy_l (zy_l (zy_l (zy_r (zy_l (zy_t (zy_t (zy_t (zy_t (zy_t (zy_t zy_h)))))))))))))))))) (zy_c (zy_t (zy_l (zy_l (zy_l (zy_l (zy_l (zy_l (zy_l (zy_l (zy_l (zy_r (zy_l (zy_t (zy_t (zy_t (zy_t (zy_t (zy_t (zy_t zy_h))))))))))))))))))) (zy_c (zy_t (zy_l (zy_l (zy_l (zy_l (zy_l (zy_l (zy_l (zy_l (zy_l (zy_r (zy_l (zy_t (zy_t (zy_t (zy_t (zy_t (zy_t (zy_t (zy_t zy_h)))))))))))))))))))) (zy_c (zy_t (zy_l (zy_l (zy_l (zy_l (zy_l (zy_l (zy_l (zy_l (zy_l (zy_r (zy_l (zy_t (zy_t (zy_t (zy_t (zy_t (zy_t (zy_t (zy_t (zy_t zy_h))))))))))))))))))))) (zy_c (zy_t (zy_l (zy_l (zy_l (zy_l (zy_l (zy_l (zy_l (zy_l (zy_l (zy_l (zy_t (zy_t (zy_t (zy_t (zy_t (zy_t (zy_t (zy_t (zy_t (zy_t (zy_t (zy_t zy_h))))))))))))))))))))))) (zy_c (zy_t (zy_l (zy_l (zy_l (zy_l (zy_l (zy_l (zy_l (zy_l (zy_l (zy_r (zy_l (zy_t (zy_t (zy_t (zy_t (zy_t (zy_t (zy_t (zy_t (zy_t (zy_t zy_h)))))))))))))))))))))) (zy_c (zy_t (zy_l (zy_l (zy_l (zy_l (zy_l (zy_l (zy_l (zy_l (zy_l (zy_l (zy_t (zy_t (zy_t (zy_t (zy_t (zy_t (zy_t (zy_t (zy_t (zy_t (zy_t (zy_t (zy_t (zy_t zy_h))))))))))))))))))))))))) (zy_c (zy_t (zy_l (zy_l (zy_l (zy_l (zy_l (zy_l (zy_l (zy_l (zy_l (zy_r (zy_l zy_h)))))))))))) (zy_c (zy_t (zy_l (zy_l (zy_l (zy_l (zy_l (zy_l (zy_l (zy_l (zy_l (zy_r (zy_l (zy_t (zy_t (zy_t (zy_t (zy_t (zy_t (zy_t (zy_t (zy_t (zy_t (zy_t zy_h))))))))))))))))))))))) (zy_c (zy_t (zy_l (zy_l (zy_l (zy_l (zy_l (zy_l (zy_l (zy_l (zy_l (zy_r (zy_l (zy_t (zy_t (zy_t (zy_t (zy_t (zy_t (zy_t (zy_t (zy_t (zy_t (zy_t (zy_t zy_h)))))))))))))))))))))))) (zy_c (zy_t (zy_l (zy_l (zy_l (zy_l (zy_l (zy_l (zy_l (zy_l (zy_l (zy_r (zy_l (zy_t (zy_t (zy_t (zy_t (zy_t (zy_t (zy_t (zy_t (zy_t (zy_t (zy_t (zy_t (zy_t zy_h))))))))))))))))))))))))) (zy_c (zy_t (zy_l (zy_l (zy_l (zy_l (zy_l (zy_l (zy_l (zy_l (zy_l (zy_r (zy_l (zy_t (zy_t (zy_t (zy_t (zy_t (zy_t (zy_t (zy_t (zy_t (zy_t (zy_t (zy_t (zy_t (zy_t zy_h)))))))))))))))))))))))))) (zy_c (zy_t (zy_l (zy_l (zy_l (zy_l (zy_l (zy_l (zy_l (zy_l (zy_l (zy_r (zy_l (zy_t zy_h))))))))))))) (zy_c (zy_t (zy_l (zy_l (zy_l (zy_l (zy_l (zy_l (zy_l (zy_l (zy_l (zy_r (zy_l (zy_t (zy_t (zy_t (zy_t (zy_t (zy_t (zy_t (zy_t (zy_t (zy_t (zy_t (zy_t (zy_t (zy_t (zy_t zy_h))))))))))))))))))))))))))) (zy_c (zy_t (zy_l (zy_l (zy_l (zy_l (zy_l (zy_l (zy_l (zy_l (zy_l (zy_r (zy_l (zy_t (zy_t (zy_t (zy_t (zy_t (zy_t (zy_t (zy_t (zy_t (zy_t (zy_t (zy_t (zy_t (zy_t (zy_t (zy_t zy_h)))))))))))))))))))))))))))) (zy_c (zy_t (zy_l (zy_l (zy_l (zy_l (zy_l (zy_l (zy_l (zy_l (zy_l (zy_r (zy_l (zy_t (zy_t (zy_t (zy_t (zy_t (zy_t (zy_t (zy_t (zy_t (zy_t (zy_t (zy_t (zy_t (zy_t (zy_t (zy_t (zy_t zy_h))))))))))))))))))))))))))))) (zy_c (zy_t (zy_l (zy_l (zy_l (zy_l (zy_l (zy_l (zy_l (zy_l (zy_l (zy_r (zy_l (zy_t (zy_t (zy_t (zy_t (zy_t (zy_t (zy_t (zy_t (zy_t (zy_t (zy_t (zy_t (zy_t (zy_t (zy_t (zy_t (zy_t (zy_t zy_h)))))))))))))))))))))))))))))) (zy_c (zy_t (zy_l (zy_l (zy_l (zy_l (zy_l (zy_l (zy_l (zy_l (zy_l (zy_r (zy_l (zy_t (zy_t (zy_t (zy_t (zy_t (zy_t (zy_t (zy_t (zy_t (zy_t (zy_t (zy_t (zy_t (zy_t (zy_t (zy_t (zy_t (zy_t (zy_t zy_h))))))))))))))))))))))))))))))) (zy_c (zy_t (zy_l (zy_l (zy_l (zy_l (zy_l (zy_l (zy_l (zy_l (zy_l (zy_r (zy_l (zy_t (zy_t (zy_t (zy_t (zy_t (zy_t (zy_t (zy_t (zy_t (zy_t (zy_t (zy_t (zy_t (zy_t (zy_t (zy_t (zy_t (zy_t (zy_t (zy_t zy_h)))))))))))))))))))))))))))))))) (zy_c (zy_t (zy_l (zy_l (zy_l (zy_l (zy_l (zy_l (zy_l (zy_l (zy_l (zy_r (zy_l (zy_t (zy_t (zy_t (zy_t (zy_t (zy_t (zy_t (zy_t (zy_t (zy_t (zy_t (zy_t (zy_t (zy_t (zy_t (zy_t (zy_t (zy_t (zy_t (zy_t (zy_t zy_h))))))))))))))))))))))))))))))))) (zy_c (zy_t (zy_l (zy_l (zy_l (zy_l (zy_l (zy_l (zy_l (zy_l (zy_l (zy_r (zy_l (zy_t (zy_t (zy_t (zy_t (zy_t (zy_t (zy_t (zy_t (zy_t (zy_t (zy_t (zy_t (zy_t (zy_t (zy_t (zy_t (zy_t (zy_t (zy_t (zy_t (zy_t (zy_t zy_h)))))))))))))))))))))))))))))))))) (zy_c (zy_t (zy_l (zy_l (zy_l (zy_l (zy_l (zy_l (zy_l (zy_l (zy_l (zy_r (zy_l (zy_t (zy_t (zy_t (zy_t (zy_t (zy_t (zy_t (zy_t (zy_t (zy_t (zy_t (zy_t (zy_t (zy_t (zy_t (zy_t (zy_t (zy_t (zy_t (zy_t (zy_t (zy_t (zy_t zy_h))))))))))))))))))))))))))))))))))) (zy_c (zy_t (zy_l (zy_l (zy_l (zy_l (zy_l (zy_l (zy_l (zy_l (zy_l (zy_r (zy_r zy_h)))))))))))) (zy_c (zy_t (zy_l (zy_l (zy_l (zy_l (zy_l (zy_l (zy_l (zy_l (zy_l (zy_r (zy_r (zy_t zy_h))))))))))))) zy_n)))))))))))))))))))))))) (zy_c (zy_t (zy_l (zy_l (zy_l (zy_l (zy_l (zy_l (zy_l (zy_l (zy_l (zy_r (zy_r (zy_t (zy_t zy_h)))))))))))))) (zy_c (zy_t (zy_l (zy_l (zy_l (zy_l (zy_l (zy_l (zy_l (zy_l (zy_l (zy_r (zy_r (zy_t (zy_t (zy_t zy_h))))))))))))))) (zy_c (zy_t (zy_l (zy_l (zy_l (zy_l (zy_l (zy_l (zy_l (zy_l (zy_l (zy_r (zy_r (zy_t (zy_t (zy_t (zy_t zy_h)))))))))))))))) (zy_c (zy_t (zy_l (zy_l (zy_l (zy_l (zy_l (zy_l (zy_l (zy_l (zy_l (zy_r (zy_r (zy_t (zy_t (zy_t (zy_t (zy_t zy_h))))))))))))))))) (zy_c (zy_t (zy_l (zy_l (zy_l (zy_l (zy_l (zy_l (zy_l (zy_l (zy_l (zy_r (zy_r (zy_t (zy_t (zy_t (zy_t (zy_t (zy_t zy_h)))))))))))))))))) zy_n)))))) (zy_p (fun _ h => (zy_t (zy_r h))))))) (by decide +kernel) | exact goodIn_r _ [30, 31, 32, 33, 34, 13, 35, 15, 25, 36, 37, 38, 39, 26, 40, 41, 42, 43, 44, 45, 46, 47, 48, 49, 50, 51, 52, 53, 54, 55, 93, 94, 95, 96] (by decide +kernel) (by decide +kernel)
set_option maxRecDepth 20000 in
theorem gX6_takeFirst_X10_find : GoodIn wsX6_takeFirst (wsV RX6 57 RX10 yX10_find wsX10_find) := by first | exact goodIn_app (goodIn_sub (show zy_S _ wsX6_takeFirst from (zy_c (zy_t (zy_l (zy_l (zy_l (zy_l (zy_l (zy_l (zy_l (zy_l (zy_l (zy_r (zy_l (zy_t (zy_t zy_h)))))))))))))) (zy_c (zy_t (zy_l (zy_l (zy_l (zy_l (zy_l (zy_l (zy_l (zy_l (zy_l (zy_r (zy_l (zy_t (zy_t (zy_t zy_h))))))))))))))) (zy_c (zy_t (zy_l (zy_l (zy_l (zy_l (zy_l (zy_l (zy_l (zy_l (zy_l (zy_r (zy_l (zy_t (zy_t (zy_t (zy_t zy_h)))))))))))))))) (zy_c (zy_t (zy_l (zy_l (zy_l (zy_l (zy_l (zy_l (zy_l (zy_l (zy_l (zy_l (zy_t (zy_t (zy_t (zy_t (zy_t (zy_t (zy_t (zy_t (zy_t (zy_t (zy_t (zy_t zy_h))))))))))))))))))))))) zy_n))))) (by decide +kernel)) ggX6_takeFirst_X10_find | exact goodIn_app (goodIn_of _ (by decide +kernel)) ggX6_takeFirst_X10_find
set_option maxRecDepth 20000 in
theorem ggX6_takeFirst_X10_looked : GoodIn wsX6_takeFirst wsX10_looked := by first | exact goodIn_sub (show zy_S _ wsX6_takeFirst from (zy_c (zy_t (zy_l (zy_l (zy_l (zy_l (zy_l (zy_l (zy_l (zy_l (zy_l (zy_r (zy_r (zy_t (zy_t (zy_t (zy_t (zy_t (zy_t (zy_t (zy_t (zy_t (zy_t zy_h)))))))))))))))))))))) (zy_a (zy_c (zy_t (zy_l (zy_l (zy_l (zy_l (zy_l (zy_l (zy_l (zy_l (zy_l (zy_r (zy_l (zy_t (zy_t (zy_t (zy_t (zy_t (zy_t zy_h)))))))))))))))))) zy_n) (zy_p (fun _ h => (zy_t (zy_r h))))))) (by decide +kernel) | exact goodIn_r _ [59, 31, 93, 94, 95, 96] (by decide +kernel) (by decide +kernel)
set_option maxRecDepth 20000 in
theorem gX6_takeFirst_X10_looked : GoodIn wsX6_takeFirst (wsV RX6 61 RX10 yX10_looked wsX10_looked) := by first | exact goodIn_app (goodIn_sub (show zy_S _ wsX6_takeFirst from (zy_c (zy_t (zy_l (zy_l (zy_l (zy_l (zy_l (zy_l (zy_l (zy_l (zy_l (zy_r (zy_r (zy_t (zy_t (zy_t (zy_t (zy_t (zy_t (zy_t zy_h))))))))))))))))))) (zy_c (zy_t (zy_l (zy_l (zy_l (zy_l (zy_l (zy_l (zy_l (zy_l (zy_l (zy_r (zy_r (zy_t (zy_t (zy_t (zy_t (zy_t (zy_t (zy_t (zy_t zy_h)))))))))))))))))))) (zy_c (zy_t (zy_l (zy_l (zy_l (zy_l (zy_l (zy_l (zy_l (zy_l (zy_l (zy_r (zy_r (zy_t (zy_t (zy_t (zy_t (zy_t (zy_t (zy_t (zy_t (zy_t zy_h))))))))))))))))))))) (zy_c (zy_t (zy_l (zy_l (zy_l (zy_l (zy_l (zy_l (zy_l (zy_l (zy_l (zy_l (zy_t (zy_t (zy_t (zy_t (zy_t (zy_t (zy_t (zy_t (zy_t (zy_t (zy_t (zy_t zy_h))))))))))))))))))))))) zy_n))))) (by decide +kernel)) ggX6_takeFirst_X10_looked | exact goodIn_app (goodIn_of _ (by decide +kernel)) ggX6_takeFirst_X10_looked
set_option maxRecDepth 20000 in
theorem ggX6_takeFirst_X7_addLooked : GoodIn wsX6_takeFirst wsX7_addLooked := by first | exact goodIn_sub (show zy_S _ wsX6_takeFirst from (zy_c (zy_t (zy_l (zy_l (zy_l (zy_l (zy_l (zy_l (zy_l (zy_l (zy_l (zy_r (zy_r (zy_t (zy_t (zy_t (zy_t (zy_t (zy_t (zy_t (zy_t (zy_t (zy_t (zy_t (zy_t (zy_t (zy_t zy_h)))))))))))))))))))))))))) (zy_a (zy_c (zy_t (zy_l (zy_l (zy_l (zy_l (zy_l (zy_l (zy_l (zy_l (zy_l (zy_r (zy_r (zy_t (zy_t (zy_t (zy_t (zy_t (zy_t (zy_t (zy_t (zy_t (zy_t (zy_t (zy_t (zy_t (zy_t (zy_t zy_h))))))))))))))))))))))))))) zy_n) (zy_p (fun _ h => (zy_t (zy_l (zy_r h)))))))) (by decide +kernel) | exact goodIn_r _ [63, 64, 83, 84, 85, 86, 87, 88, 89, 90, 91, 92] (by decide +kernel) (by decide +kernel)
set_option maxRecDepth 20000 in
theorem gX6_takeFirst_X7_addLooked : GoodIn wsX6_takeFirst (wsV RX6 64 RX7 yX7_addLooked wsX7_addLooked) := by first | exact goodIn_app (goodIn_sub (show zy_S _ wsX6_takeFirst from (zy_c (zy_t (zy_l (zy_l (zy_l (zy_l (zy_l (zy_l (zy_l (zy_l (zy_l (zy_r (zy_r (zy_t (zy_t (zy_t (zy_t (zy_t (zy_t (zy_t (zy_t (zy_t (zy_t (zy_t zy_h))))))))))))))))))))))) (zy_c (zy_t (zy_l (zy_l (zy_l (zy_l (zy_l (zy_l (zy_l (zy_l (zy_l (zy_r (zy_r (zy_t (zy_t (zy_t (zy_t (zy_t (zy_t (zy_t (zy_t (zy_t (zy_t (zy_t (zy_t zy_h)))))))))))))))))))))))) (zy_c (zy_t (zy_l (zy_l (zy_l (zy_l (zy_l (zy_l (zy_l (zy_l (zy_l (zy_r (zy_r (zy_t (zy_t (zy_t (zy_t (zy_t (zy_t (zy_t (zy_t (zy_t (zy_t (zy_t (zy_t (zy_t zy_h))))))))))))))))))))))))) (zy_c (zy_t (zy_l (zy_l (zy_l (zy_l (zy_l (zy_l (zy_l (zy_l (zy_l (zy_l (zy_t (zy_t (zy_t (zy_t (zy_t zy_h)))))))))))))))) zy_n))))) (by decide +kernel)) ggX6_takeFirst_X7_addLooked | exact goodIn_app (goodIn_of _ (by decide +kernel)) ggX6_takeFirst_X7_addLooked
theorem dX6_takeFirst_0 : decode cX6_takeFirst 0 = .ok (.aload_n 0, 1) := by decide +kernel
theorem dX6_takeFirst_1 : decode cX6_takeFirst 1 = .ok (.getfield 47, 3) := by decide +kernel
theorem dX6_takeFirst_4 : decode cX6_takeFirst 4 = .ok (.invokevirtual 51, 3) := by decide +kernel
theorem dX6_takeFirst_7 : decode cX6_takeFirst 7 = .ok (.astore_n 2, 1) := by decide +kernel
theorem dX6_takeFirst_8 : decode cX6_takeFirst 8 = .ok (.aload_n 2, 1) := by decide +kernel
theorem dX6_takeFirst_9 : decode cX6_takeFirst 9 = .ok (.iconst 0, 1) := by decide +kernel
theorem dX6_takeFirst_10 : decode cX6_takeFirst 10 = .ok (.iload_n 1, 1) := by decide +kernel
theorem dX6_takeFirst_11 : decode cX6_takeFirst 11 = .ok (.iconst 0, 1) := by decide +kernel
theorem dX6_takeFirst_12 : decode cX6_takeFirst 12 = .ok (.invokevirtual 57, 3) := by decide +kernel
theorem dX6_takeFirst_15 : decode cX6_takeFirst 15 = .ok (.istore_n 3, 1) := by decide +kernel
theorem dX6_takeFirst_16 : decode cX6_takeFirst 16 = .ok (.aload_n 0, 1) := by decide +kernel
theorem dX6_takeFirst_17 : decode cX6_takeFirst 17 = .ok (.getfield 47, 3) := by decide +kernel
theorem dX6_takeFirst_20 : decode cX6_takeFirst 20 = .ok (.aload_n 2, 1) := by decide +kernel
theorem dX6_takeFirst_21 : decode cX6_takeFirst 21 = .ok (.invokevirtual 61, 3) := by decide +kernel
theorem dX6_takeFirst_24 : decode cX6_takeFirst 24 = .ok (.invokevirtual 64, 3) := by decide +kernel
theorem dX6_takeFirst_27 : decode cX6_takeFirst 27 = .ok (.iload_n 3, 1) := by decide +kernel
theorem dX6_takeFirst_28 : decode cX6_takeFirst 28 = .ok (.ireturn, 1) := by decide +kernel
set_option maxRecDepth 20000 in
theorem ggX6_emptyRows_X10_size : GoodIn wsX6_emptyRows wsX10_size := by first | exact goodIn_sub (show zy_S _ wsX6_emptyRows from (zy_c (zy_t (zy_l (zy_l (zy_l (zy_l (zy_l (zy_l (zy_l (zy_l (zy_l (zy_l (zy_t (zy_t (zy_t (zy_t (zy_t (zy_t (zy_t zy_h)))))))))))))))))) (zy_a (zy_c (zy_t (zy_l (zy_l (zy_l (zy_l (zy_l (zy_l (zy_l (zy_l (zy_l (zy_l (zy_t (zy_t (zy_t (zy_t (zy_t (zy_t (zy_t (zy_t zy_h))))))))))))))))))) zy_n) (zy_p (fun _ h => (zy_t (zy_l (zy_r h)))))))) (by decide +kernel) | exact goodIn_r _ [8, 9, 60, 61, 62, 63] (by decide +kernel) (by decide +kernel)
set_option maxRecDepth 20000 in
theorem gX6_emptyRows_X10_size : GoodIn wsX6_emptyRows (wsV RX6 34 RX10 yX10_size wsX10_size) := by first | exact goodIn_app (goodIn_sub (show zy_S _ wsX6_emptyRows from (zy_c (zy_t (zy_l (zy_l (zy_l (zy_l (zy_l (zy_l (zy_l (zy_l (zy_l (zy_l (zy_t (zy_t (zy_t zy_h)))))))))))))) (zy_c (zy_t (zy_l (zy_l (zy_l (zy_l (zy_l (zy_l (zy_l (zy_l (zy_l (zy_l (zy_t (zy_t (zy_t (zy_t zy_h))))))))))))))) (zy_c (zy_t (zy_l (zy_l (zy_l (zy_l (zy_l (zy_l (zy_l (zy_l (zy_l (zy_l (zy_t (zy_t (zy_t (zy_t (zy_t zy_h)))))))))))))))) (zy_c (zy_t (zy_l (zy_l (zy_l (zy_l (zy_l (zy_l (zy_l (zy_l (zy_l (zy_l (zy_t (zy_t (zy_t (zy_t (zy_t (zy_t zy_h))))))))))))))))) zy_n))))) (by decide +kernel)) ggX6_emptyRows_X10_size | exact goodIn_app (goodIn_of _ (by decide +kernel)) ggX6_emptyRows_X10_size
set_option maxRecDepth 20000 in
theorem ggX6_emptyRows_X10_placeOf : GoodIn wsX6_emptyRows wsX10_placeOf := by first | exact goodIn_sub (show zy_S _ wsX6_emptyRows from (zy_c (zy_t (zy_l (zy_l (zy_l (zy_l (zy_l (zy_l (zy_l (zy_l (zy_l (zy_l (zy_t (zy_t (zy_t (zy_t (zy_t (zy_t (zy_t (zy_t (zy_t (zy_t (zy_t (zy_t zy_h))))))))))))))))))))))) (zy_a (zy_c (zy_t (zy_l (zy_l (zy_l (zy_l (zy_l (zy_l (zy_l (zy_l (zy_l (zy_l (zy_t (zy_t (zy_t (zy_t (zy_t (zy_t (zy_t (zy_t zy_h))))))))))))))))))) (zy_c (zy_t (zy_l (zy_l (zy_l (zy_l (zy_l (zy_l (zy_l (zy_l (zy_l (zy_l (zy_t (zy_t (zy_t (zy_t (zy_t (zy_t (zy_t (zy_t (zy_t (zy_t (zy_t (zy_t (zy_t zy_h)))))))))))))))))))))))) zy_n)) (zy_p (fun _ h => (zy_t (zy_l (zy_r h)))))))) (by decide +kernel) | exact goodIn_r _ [13, 9, 14, 60, 61, 62, 63] (by decide +kernel) (by decide +kernel)
set_option maxRecDepth 20000 in
theorem gX6_emptyRows_X10_placeOf : GoodIn wsX6_emptyRows (wsV RX6 41 RX10 yX10_placeOf wsX10_placeOf) := by first | exact goodIn_app (goodIn_sub (show zy_S _ wsX6_emptyRows from (zy_c (zy_t (zy_l (zy_l (zy_l (zy_l (zy_l (zy_l (zy_l (zy_l (zy_l (zy_l (zy_t (zy_t (zy_t (zy_t (zy_t (zy_t (zy_t (zy_t (zy_t zy_h)))))))))))))))))))) (zy_c (zy_t (zy_l (zy_l (zy_l (zy_l (zy_l (zy_l (zy_l (zy_l (zy_l (zy_l (zy_t (zy_t (zy_t (zy_t (zy_t (zy_t (zy_t (zy_t (zy_t (zy_t zy_h))))))))))))))))))))) (zy_c (zy_t (zy_l (zy_l (zy_l (zy_l (zy_l (zy_l (zy_l (zy_l (zy_l (zy_l (zy_t (zy_t (zy_t (zy_t (zy_t (zy_t (zy_t (zy_t (zy_t (zy_t (zy_t zy_h)))))))))))))))))))))) (zy_c (zy_t (zy_l (zy_l (zy_l (zy_l (zy_l (zy_l (zy_l (zy_l (zy_l (zy_l (zy_t (zy_t (zy_t (zy_t (zy_t (zy_t zy_h))))))))))))))))) zy_n))))) (by decide +kernel)) ggX6_emptyRows_X10_placeOf | exact goodIn_app (goodIn_of _ (by decide +kernel)) ggX6_emptyRows_X10_placeOf
set_option maxRecDepth 20000 in
theorem ggX6_emptyRows_X10_wordsOf : GoodIn wsX6_emptyRows wsX10_wordsOf := by first | exact goodIn_sub (show zy_S _ wsX6_emptyRows from (zy_c (zy_t (zy_l (zy_l (zy_l (zy_l (zy_l (zy_l (zy_l (zy_l (zy_l (zy_l (zy_t (zy_t (zy_t (zy_t (zy_t (zy_t (zy_t (zy_t (zy_t (zy_t (zy_t (zy_t (zy_t (zy_t (zy_t (zy_t (zy_t zy_h)))))))))))))))))))))))))))) (zy_a (zy_c (zy_t (zy_l (zy_l (zy_l (zy_l (zy_l (zy_l (zy_l (zy_l (zy_l (zy_l (zy_t (zy_t (zy_t (zy_t (zy_t (zy_t (zy_t (zy_t zy_h))))))))))))))))))) (zy_c (zy_t (zy_l (zy_l (zy_l (zy_l (zy_l (zy_l (zy_l (zy_l (zy_l (zy_l (zy_t (zy_t (zy_t (zy_t (zy_t (zy_t (zy_t (zy_t (zy_t (zy_t (zy_t (zy_t (zy_t (zy_t (zy_t (zy_t (zy_t (zy_t zy_h))))))))))))))))))))))))))))) zy_n)) (zy_p (fun _ h => (zy_t (zy_l (zy_r h)))))))) (by decide +kernel) | exact goodIn_r _ [18, 9, 19, 60, 61, 62, 63] (by decide +kernel) (by decide +kernel)
set_option maxRecDepth 20000 in
theorem gX6_emptyRows_X10_wordsOf : GoodIn wsX6_emptyRows (wsV RX6 38 RX10 yX10_wordsOf wsX10_wordsOf) := by first | exact goodIn_app (goodIn_sub (show zy_S _ wsX6_emptyRows from (zy_c (zy_t (zy_l (zy_l (zy_l (zy_l (zy_l (zy_l (zy_l (zy_l (zy_l (zy_l (zy_t (zy_t (zy_t (zy_t (zy_t (zy_t (zy_t (zy_t (zy_t (zy_t (zy_t (zy_t (zy_t (zy_t zy_h))))))))))))))))))))))))) (zy_c (zy_t (zy_l (zy_l (zy_l (zy_l (zy_l (zy_l (zy_l (zy_l (zy_l (zy_l (zy_t (zy_t (zy_t (zy_t (zy_t (zy_t (zy_t (zy_t (zy_t (zy_t (zy_t (zy_t (zy_t (zy_t (zy_t zy_h)))))))))))))))))))))))))) (zy_c (zy_t (zy_l (zy_l (zy_l (zy_l (zy_l (zy_l (zy_l (zy_l (zy_l (zy_l (zy_t (zy_t (zy_t (zy_t (zy_t (zy_t (zy_t (zy_t (zy_t (zy_t (zy_t (zy_t (zy_t (zy_t (zy_t (zy_t zy_h))))))))))))))))))))))))))) (zy_c (zy_t (zy_l (zy_l (zy_l (zy_l (zy_l (zy_l (zy_l (zy_l (zy_l (zy_l (zy_t (zy_t (zy_t (zy_t (zy_t (zy_t zy_h))))))))))))))))) zy_n))))) (by decide +kernel)) ggX6_emptyRows_X10_wordsOf | exact goodIn_app (goodIn_of _ (by decide +kernel)) ggX6_emptyRows_X10_wordsOf
set_option maxRecDepth 20000 in
theorem ggX6_emptyRows_X7_markFree : GoodIn wsX6_emptyRows wsX7_markFree := by first | exact goodIn_sub (show zy_S _ wsX6_emptyRows from (zy_c (zy_t (zy_l (zy_l (zy_l (zy_l (zy_l (zy_l (zy_l (zy_l (zy_l (zy_l (zy_t (zy_t (zy_t (zy_t (zy_t (zy_t (zy_t (zy_t (zy_t (zy_t (zy_t (zy_t (zy_t (zy_t (zy_t (zy_t (zy_t (zy_t (zy_t (zy_t (zy_t (zy_t (zy_t zy_h)))))))))))))))))))))))))))))))))) (zy_a (zy_c (zy_t (zy_l (zy_l (zy_l (zy_l (zy_l (zy_l (zy_l (zy_l (zy_l (zy_r zy_h))))))))))) (zy_c (zy_t (zy_l (zy_l (zy_l (zy_l (zy_l (zy_l (zy_l (zy_l (zy_l (zy_r (zy_t zy_h)))))))))))) (zy_c (zy_t (zy_l (zy_l (zy_l (zy_l (zy_l (zy_l (zy_l (zy_l (zy_l (zy_r (zy_t (zy_t zy_h))))))))))))) (zy_c (zy_t (zy_l (zy_l (zy_l (zy_l (zy_l (zy_l (zy_l (zy_l (zy_l (zy_l (zy_t (zy_t (zy_t (zy_t (zy_t (zy_t (zy_t (zy_t (zy_t (zy_t (zy_t (zy_t (zy_t (zy_t (zy_t (zy_t (zy_t (zy_t (zy_t (zy_t (zy_t (zy_t zy_h))))))))))))))))))))))))))))))))) (zy_c (zy_t (zy_l (zy_l (zy_l (zy_l (zy_l (zy_l (zy_l (zy_l (zy_l (zy_r (zy_t (zy_t (zy_t zy_h)))))))))))))) (zy_c (zy_t (zy_l (zy_l (zy_l (zy_l (zy_l (zy_l (zy_l (zy_l (zy_l (zy_r (zy_t (zy_t (zy_t (zy_t zy_h))))))))))))))) (zy_c (zy_t (zy_l (zy_l (zy_l (zy_l (zy_l (zy_l (zy_l (zy_l (zy_l (zy_r (zy_t (zy_t (zy_t (zy_t (zy_t zy_h)))))))))))))))) (zy_c (zy_t (zy_l (zy_l (zy_l (zy_l (zy_l (zy_l (zy_l (zy_l (zy_l (zy_r (zy_t (zy_t (zy_t (zy_t (zy_t (zy_t zy_h))))))))))))))))) (zy_c (zy_t (zy_l (zy_l (zy_l (zy_l (zy_l (zy_l (zy_l (zy_l (zy_l (zy_r (zy_t (zy_t (zy_t (zy_t (zy_t (zy_t (zy_t zy_h)))))))))))))))))) (zy_c (zy_t (zy_l (zy_l (zy_l (zy_l (zy_l (zy_l (zy_l (zy_l (zy_l (zy_r (zy_t (zy_t (zy_t (zy_t (zy_t (zy_t (zy_t (zy_t zy_h))))))))))))))))))) (zy_c (zy_t (zy_l (zy_l (zy_l (zy_l (zy_l (zy_l (zy_l (zy_l (zy_l (zy_r (zy_t (zy_t (zy_t (zy_t (zy_t (zy_t (zy_t (zy_t (zy_t zy_h)))))))))))))))))))) (zy_c (zy_t (zy_l (zy_l (zy_l (zy_l (zy_l (zy_l (zy_l (zy_l (zy_l (zy_r (zy_t (zy_t (zy_t (zy_t (zy_t (zy_t (zy_t (zy_t (zy_t (zy_t zy_h))))))))))))))))))))) (zy_c (zy_t (zy_l (zy_l (zy_l (zy_l (zy_l (zy_l (zy_l (zy_l (zy_l (zy_r (zy_t (zy_t (zy_t (zy_t (zy_t (zy_t (zy_t (zy_t (zy_t (zy_t (zy_t zy_h)))))))))))))))))))))) (zy_c (zy_t (zy_l (zy_l (zy_l (zy_l (zy_l (zy_l (zy_l (zy_l (zy_l (zy_r (zy_t (zy_t (zy_t (zy_t (zy_t (zy_t (zy_t (zy_t (zy_t (zy_t (zy_t (zy_t zy_h))))))))))))))))))))))) zy_n)))))))))))))) (zy_p (fun _ h => (zy_t (zy_r h))))))) (by decide +kernel) | exact goodIn_r _ [24, 25, 26, 27, 23, 28, 29, 30, 31, 32, 33, 34, 35, 36, 37, 64, 65, 66, 67, 68, 69, 70, 71, 72, 73] (by decide +kernel) (by decide +kernel)
set_option maxRecDepth 20000 in
theorem gX6_emptyRows_X7_markFree : GoodIn wsX6_emptyRows (wsV RX6 67 RX7 yX7_markFree wsX7_markFree) := by first | exact goodIn_app (goodIn_sub (show zy_S _ wsX6_emptyRows from (zy_c (zy_t (zy_l (zy_l (zy_l (zy_l (zy_l (zy_l (zy_l (zy_l (zy_l (zy_l (zy_t (zy_t (zy_t (zy_t (zy_t (zy_t (zy_t (zy_t (zy_t (zy_t (zy_t (zy_t (zy_t (zy_t (zy_t (zy_t (zy_t (zy_t (zy_t zy_h)))))))))))))))))))))))))))))) (zy_c (zy_t (zy_l (zy_l (zy_l (zy_l (zy_l (zy_l (zy_l (zy_l (zy_l (zy_l (zy_t (zy_t (zy_t (zy_t (zy_t (zy_t (zy_t (zy_t (zy_t (zy_t (zy_t (zy_t (zy_t (zy_t (zy_t (zy_t (zy_t (zy_t (zy_t (zy_t zy_h))))))))))))))))))))))))))))))) (zy_c (zy_t (zy_l (zy_l (zy_l (zy_l (zy_l (zy_l (zy_l (zy_l (zy_l (zy_l (zy_t (zy_t (zy_t (zy_t (zy_t (zy_t (zy_t (zy_t (zy_t (zy_t (zy_t (zy_t (zy_t (zy_t (zy_t (zy_t (zy_t (zy_t (zy_t (zy_t (zy_t zy_h)))))))))))))))))))))))))))))))) (zy_c (zy_t (zy_l (zy_l (zy_l (zy_l (zy_l (zy_l (zy_l (zy_l (zy_l (zy_l (zy_t (zy_t (zy_t (zy_t (zy_t (zy_t (zy_t (zy_t (zy_t (zy_t (zy_t (zy_t (zy_t (zy_t (zy_t (zy_t (zy_t (zy_t (zy_t (zy_t (zy_t (zy_t zy_h))))))))))))))))))))))))))))))))) zy_n))))) (by decide +kernel)) ggX6_emptyRows_X7_markFree | exact goodIn_app (goodIn_of _ (by decide +kernel)) ggX6_emptyRows_X7_markFree
set_option maxRecDepth 20000 in
theorem ggX6_emptyRows_X10_clear : GoodIn wsX6_emptyRows wsX10_clear := by first | exact goodIn_sub (show zy_S _ wsX6_emptyRows from (zy_c (zy_t (zy_l (zy_l (zy_l (zy_l (zy_l (zy_l (zy_l (zy_l (zy_l (zy_r (zy_t (zy_t (zy_t (zy_t (zy_t (zy_t (zy_t (zy_t (zy_t (zy_t (zy_t (zy_t (zy_t (zy_t (zy_t (zy_t zy_h))))))))))))))))))))))))))) (zy_a (zy_c (zy_t (zy_l (zy_l (zy_l (zy_l (zy_l (zy_l (zy_l (zy_l (zy_l (zy_l (zy_t (zy_t (zy_t (zy_t (zy_t (zy_t (zy_t (zy_t zy_h))))))))))))))))))) zy_n) (zy_p (fun _ h => (zy_t (zy_l (zy_r h)))))))) (by decide +kernel) | exact goodIn_r _ [41, 9, 60, 61, 62, 63] (by decide +kernel) (by decide +kernel)
set_option maxRecDepth 20000 in
theorem gX6_emptyRows_X10_clear : GoodIn wsX6_emptyRows (wsV RX6 20 RX10 yX10_clear wsX10_clear) := by first | exact goodIn_app (goodIn_sub (show zy_S _ wsX6_emptyRows from (zy_c (zy_t (zy_l (zy_l (zy_l (zy_l (zy_l (zy_l (zy_l (zy_l (zy_l (zy_r (zy_t (zy_t (zy_t (zy_t (zy_t (zy_t (zy_t (zy_t (zy_t (zy_t (zy_t (zy_t (zy_t zy_h)))))))))))))))))))))))) (zy_c (zy_t (zy_l (zy_l (zy_l (zy_l (zy_l (zy_l (zy_l (zy_l (zy_l (zy_r (zy_t (zy_t (zy_t (zy_t (zy_t (zy_t (zy_t (zy_t (zy_t (zy_t (zy_t (zy_t (zy_t (zy_t zy_h))))))))))))))))))))))))) (zy_c (zy_t (zy_l (zy_l (zy_l (zy_l (zy_l (zy_l (zy_l (zy_l (zy_l (zy_r (zy_t (zy_t (zy_t (zy_t (zy_t (zy_t (zy_t (zy_t (zy_t (zy_t (zy_t (zy_t (zy_t (zy_t (zy_t zy_h)))))))))))))))))))))))))) (zy_c (zy_t (zy_l (zy_l (zy_l (zy_l (zy_l (zy_l (zy_l (zy_l (zy_l (zy_l (zy_t (zy_t (zy_t (zy_t (zy_t (zy_t zy_h))))))))))))))))) zy_n))))) (by decide +kernel)) ggX6_emptyRows_X10_clear | exact goodIn_app (goodIn_of _ (by decide +kernel)) ggX6_emptyRows_X10_clear
theorem dX6_emptyRows_0 : decode cX6_emptyRows 0 = .ok (.iconst 0, 1) := by decide +kernel
theorem dX6_emptyRows_1 : decode cX6_emptyRows 1 = .ok (.istore_n 1, 1) := by decide +kernel
theorem dX6_emptyRows_2 : decode cX6_emptyRows 2 = .ok (.iload_n 1, 1) := by decide +kernel
theorem dX6_emptyRows_3 : decode cX6_emptyRows 3 = .ok (.aload_n 0, 1) := by decide +kernel
theorem dX6_emptyRows_4 : decode cX6_emptyRows 4 = .ok (.getfield 14, 3) := by decide +kernel
theorem dX6_emptyRows_7 : decode cX6_emptyRows 7 = .ok (.invokevirtual 34, 3) := by decide +kernel
theorem dX6_emptyRows_10 : decode cX6_emptyRows 10 = .ok (.if_icmp .ge 32, 3) := by decide +kernel
theorem dX6_emptyRows_13 : decode cX6_emptyRows 13 = .ok (.aload_n 0, 1) := by decide +kernel
theorem dX6_emptyRows_14 : decode cX6_emptyRows 14 = .ok (.getfield 47, 3) := by decide +kernel
theorem dX6_emptyRows_17 : decode cX6_emptyRows 17 = .ok (.aload_n 0, 1) := by decide +kernel
theorem dX6_emptyRows_18 : decode cX6_emptyRows 18 = .ok (.getfield 14, 3) := by decide +kernel
theorem dX6_emptyRows_21 : decode cX6_emptyRows 21 = .ok (.iload_n 1, 1) := by decide +kernel
theorem dX6_emptyRows_22 : decode cX6_emptyRows 22 = .ok (.invokevirtual 41, 3) := by decide +kernel
theorem dX6_emptyRows_25 : decode cX6_emptyRows 25 = .ok (.aload_n 0, 1) := by decide +kernel
theorem dX6_emptyRows_26 : decode cX6_emptyRows 26 = .ok (.getfield 14, 3) := by decide +kernel
theorem dX6_emptyRows_29 : decode cX6_emptyRows 29 = .ok (.iload_n 1, 1) := by decide +kernel
theorem dX6_emptyRows_30 : decode cX6_emptyRows 30 = .ok (.invokevirtual 38, 3) := by decide +kernel
theorem dX6_emptyRows_33 : decode cX6_emptyRows 33 = .ok (.invokevirtual 67, 3) := by decide +kernel
theorem dX6_emptyRows_36 : decode cX6_emptyRows 36 = .ok (.iinc 1 1, 3) := by decide +kernel
theorem dX6_emptyRows_39 : decode cX6_emptyRows 39 = .ok (.goto (-37), 3) := by decide +kernel
theorem dX6_emptyRows_42 : decode cX6_emptyRows 42 = .ok (.aload_n 0, 1) := by decide +kernel
theorem dX6_emptyRows_43 : decode cX6_emptyRows 43 = .ok (.getfield 14, 3) := by decide +kernel
theorem dX6_emptyRows_46 : decode cX6_emptyRows 46 = .ok (.invokevirtual 20, 3) := by decide +kernel
theorem dX6_emptyRows_49 : decode cX6_emptyRows 49 = .ok (.return_, 1) := by decide +kernel
set_option maxRecDepth 20000 in
theorem ggX6_takeBack_X10_add : GoodIn wsX6_takeBack wsX10_add := by first | exact goodIn_sub (show zy_S _ wsX6_takeBack from (zy_c (zy_t (zy_l (zy_l (zy_l (zy_l (zy_l (zy_l (zy_l (zy_l (zy_l (zy_l (zy_t (zy_t (zy_t (zy_t (zy_t (zy_t (zy_t zy_h)))))))))))))))))) (zy_a (zy_c (zy_t (zy_l (zy_l (zy_l (zy_l (zy_l (zy_l (zy_l (zy_l (zy_l (zy_l (zy_t (zy_t (zy_t (zy_t (zy_t (zy_t (zy_t (zy_t zy_h))))))))))))))))))) (zy_c (zy_t (zy_l (zy_l (zy_l (zy_l (zy_l (zy_l (zy_l (zy_l (zy_l (zy_l (zy_t (zy_t (zy_t (zy_t (zy_t (zy_t (zy_t (zy_t (zy_t zy_h)))))))))))))))))))) (zy_c (zy_t (zy_l (zy_l (zy_l (zy_l (zy_l (zy_l (zy_l (zy_l (zy_l (zy_l (zy_t (zy_t (zy_t (zy_t (zy_t (zy_t (zy_t (zy_t (zy_t (zy_t zy_h))))))))))))))))))))) zy_n))) (zy_p (fun _ h => (zy_t (zy_l (zy_r h)))))))) (by decide +kernel) | exact goodIn_r _ [8, 9, 10, 11, 48, 49, 50, 51] (by decide +kernel) (by decide +kernel)
set_option maxRecDepth 20000 in
theorem gX6_takeBack_X10_add : GoodIn wsX6_takeBack (wsV RX6 71 RX10 yX10_add wsX10_add) := by first | exact goodIn_app (goodIn_sub (show zy_S _ wsX6_takeBack from (zy_c (zy_t (zy_l (zy_l (zy_l (zy_l (zy_l (zy_l (zy_l (zy_l (zy_l (zy_l (zy_t (zy_t (zy_t zy_h)))))))))))))) (zy_c (zy_t (zy_l (zy_l (zy_l (zy_l (zy_l (zy_l (zy_l (zy_l (zy_l (zy_l (zy_t (zy_t (zy_t (zy_t zy_h))))))))))))))) (zy_c (zy_t (zy_l (zy_l (zy_l (zy_l (zy_l (zy_l (zy_l (zy_l (zy_l (zy_l (zy_t (zy_t (zy_t (zy_t (zy_t zy_h)))))))))))))))) (zy_c (zy_t (zy_l (zy_l (zy_l (zy_l (zy_l (zy_l (zy_l (zy_l (zy_l (zy_l (zy_t (zy_t (zy_t (zy_t (zy_t (zy_t zy_h))))))))))))))))) zy_n))))) (by decide +kernel)) ggX6_takeBack_X10_add | exact goodIn_app (goodIn_of _ (by decide +kernel)) ggX6_takeBack_X10_add
set_option maxRecDepth 20000 in
theorem ggX6_takeBack_X7_markQuick : GoodIn wsX6_takeBack wsX7_markQuick := by first | exact goodIn_sub (show zy_S _ wsX6_takeBack from (zy_c (zy_t (zy_l (zy_l (zy_l (zy_l (zy_l (zy_l (zy_l (zy_l (zy_l (zy_l (zy_t (zy_t (zy_t (zy_t (zy_t (zy_t (zy_t (zy_t (zy_t (zy_t (zy_t (zy_t (zy_t (zy_t (zy_t zy_h)))))))))))))))))))))))))) (zy_a (zy_c (zy_t (zy_l (zy_l (zy_l (zy_l (zy_l (zy_l (zy_l (zy_l (zy_l (zy_l (zy_t (zy_t (zy_t (zy_t (zy_t (zy_t (zy_t (zy_t (zy_t (zy_t (zy_t (zy_t (zy_t (zy_t (zy_t (zy_t zy_h))))))))))))))))))))))))))) (zy_c (zy_t (zy_l (zy_l (zy_l (zy_l (zy_l (zy_l (zy_l (zy_l (zy_l (zy_l (zy_t (zy_t (zy_t (zy_t (zy_t (zy_t (zy_t (zy_t (zy_t (zy_t (zy_t (zy_t (zy_t (zy_t (zy_t (zy_t (zy_t zy_h)))))))))))))))))))))))))))) (zy_c (zy_t (zy_l (zy_l (zy_l (zy_l (zy_l (zy_l (zy_l (zy_l (zy_l (zy_l (zy_t (zy_t (zy_t (zy_t (zy_t (zy_t (zy_t (zy_t (zy_t (zy_t (zy_t (zy_t (zy_t (zy_t (zy_t (zy_t (zy_t (zy_t zy_h))))))))))))))))))))))))))))) (zy_c (zy_t (zy_l (zy_l (zy_l (zy_l (zy_l (zy_l (zy_l (zy_l (zy_l (zy_l (zy_t (zy_t (zy_t (zy_t (zy_t (zy_t (zy_t (zy_t (zy_t (zy_t (zy_t (zy_t (zy_t (zy_t zy_h))))))))))))))))))))))))) (zy_c (zy_t (zy_l (zy_l (zy_l (zy_l (zy_l (zy_l (zy_l (zy_l (zy_l (zy_l (zy_t (zy_t (zy_t (zy_t (zy_t (zy_t (zy_t (zy_t (zy_t (zy_t (zy_t (zy_t (zy_t (zy_t (zy_t (zy_t (zy_t (zy_t (zy_t zy_h)))))))))))))))))))))))))))))) (zy_c (zy_t (zy_l (zy_l (zy_l (zy_l (zy_l (zy_l (zy_l (zy_l (zy_l (zy_l (zy_t (zy_t (zy_t (zy_t (zy_t (zy_t (zy_t (zy_t (zy_t (zy_t (zy_t (zy_t (zy_t (zy_t (zy_t (zy_t (zy_t (zy_t (zy_t (zy_t zy_h))))))))))))))))))))))))))))))) (zy_c (zy_t (zy_l (zy_l (zy_l (zy_l (zy_l (zy_l (zy_l (zy_l (zy_l (zy_l (zy_t (zy_t (zy_t (zy_t (zy_t (zy_t (zy_t (zy_t (zy_t (zy_t (zy_t (zy_t (zy_t (zy_t (zy_t (zy_t (zy_t (zy_t (zy_t (zy_t (zy_t zy_h)))))))))))))))))))))))))))))))) (zy_c (zy_t (zy_l (zy_l (zy_l (zy_l (zy_l (zy_l (zy_l (zy_l (zy_l (zy_l (zy_t (zy_t (zy_t (zy_t (zy_t (zy_t (zy_t (zy_t (zy_t (zy_t (zy_t (zy_t (zy_t (zy_t (zy_t (zy_t (zy_t (zy_t (zy_t (zy_t (zy_t (zy_t zy_h))))))))))))))))))))))))))))))))) (zy_c (zy_t (zy_l (zy_l (zy_l (zy_l (zy_l (zy_l (zy_l (zy_l (zy_l (zy_l (zy_t (zy_t (zy_t (zy_t (zy_t (zy_t (zy_t (zy_t (zy_t (zy_t (zy_t (zy_t (zy_t (zy_t (zy_t (zy_t (zy_t (zy_t (zy_t (zy_t (zy_t (zy_t (zy_t zy_h)))))))))))))))))))))))))))))))))) (zy_c (zy_t (zy_l (zy_l (zy_l (zy_l (zy_l (zy_l (zy_l (zy_l (zy_l (zy_r zy_h))))))))))) (zy_c (zy_t (zy_l (zy_l (zy_l (zy_l (zy_l (zy_l (zy_l (zy_l (zy_l (zy_r (zy_t zy_h)))))))))))) (zy_c (zy_t (zy_l (zy_l (zy_l (zy_l (zy_l (zy_l (zy_l (zy_l (zy_l (zy_r (zy_t (zy_t zy_h))))))))))))) (zy_c (zy_t (zy_l (zy_l (zy_l (zy_l (zy_l (zy_l (zy_l (zy_l (zy_l (zy_r (zy_t (zy_t (zy_t zy_h)))))))))))))) (zy_c (zy_t (zy_l (zy_l (zy_l (zy_l (zy_l (zy_l (zy_l (zy_l (zy_l (zy_r (zy_t (zy_t (zy_t (zy_t zy_h))))))))))))))) zy_n)))))))))))))) (zy_p (fun _ h => (zy_t (zy_r h))))))) (by decide +kernel) | exact goodIn_r _ [16, 17, 18, 19, 15, 20, 21, 22, 23, 24, 25, 26, 27, 28, 29, 52, 53, 54, 55, 56, 57, 58, 59, 60, 61] (by decide +kernel) (by decide +kernel)
set_option maxRecDepth 20000 in
theorem gX6_takeBack_X7_markQuick : GoodIn wsX6_takeBack (wsV RX6 74 RX7 yX7_markQuick wsX7_markQuick) := by first | exact goodIn_app (goodIn_sub (show zy_S _ wsX6_takeBack from (zy_c (zy_t (zy_l (zy_l (zy_l (zy_l (zy_l (zy_l (zy_l (zy_l (zy_l (zy_l (zy_t (zy_t (zy_t (zy_t (zy_t (zy_t (zy_t (zy_t (zy_t (zy_t (zy_t zy_h)))))))))))))))))))))) (zy_c (zy_t (zy_l (zy_l (zy_l (zy_l (zy_l (zy_l (zy_l (zy_l (zy_l (zy_l (zy_t (zy_t (zy_t (zy_t (zy_t (zy_t (zy_t (zy_t (zy_t (zy_t (zy_t (zy_t zy_h))))))))))))))))))))))) (zy_c (zy_t (zy_l (zy_l (zy_l (zy_l (zy_l (zy_l (zy_l (zy_l (zy_l (zy_l (zy_t (zy_t (zy_t (zy_t (zy_t (zy_t (zy_t (zy_t (zy_t (zy_t (zy_t (zy_t (zy_t zy_h)))))))))))))))))))))))) (zy_c (zy_t (zy_l (zy_l (zy_l (zy_l (zy_l (zy_l (zy_l (zy_l (zy_l (zy_l (zy_t (zy_t (zy_t (zy_t (zy_t (zy_t (zy_t (zy_t (zy_t (zy_t (zy_t (zy_t (zy_t (zy_t zy_h))))))))))))))))))))))))) zy_n))))) (by decide +kernel)) ggX6_takeBack_X7_markQuick | exact goodIn_app (goodIn_of _ (by decide +kernel)) ggX6_takeBack_X7_markQuick
theorem dX6_takeBack_0 : decode cX6_takeBack 0 = .ok (.iload_n 2, 1) := by decide +kernel
theorem dX6_takeBack_1 : decode cX6_takeBack 1 = .ok (.bipush 8, 2) := by decide +kernel
theorem dX6_takeBack_3 : decode cX6_takeBack 3 = .ok (.if_icmp .gt 21, 3) := by decide +kernel
theorem dX6_takeBack_6 : decode cX6_takeBack 6 = .ok (.aload_n 0, 1) := by decide +kernel
theorem dX6_takeBack_7 : decode cX6_takeBack 7 = .ok (.getfield 14, 3) := by decide +kernel
theorem dX6_takeBack_10 : decode cX6_takeBack 10 = .ok (.iload_n 1, 1) := by decide +kernel
theorem dX6_takeBack_11 : decode cX6_takeBack 11 = .ok (.iload_n 2, 1) := by decide +kernel
theorem dX6_takeBack_12 : decode cX6_takeBack 12 = .ok (.invokevirtual 71, 3) := by decide +kernel
theorem dX6_takeBack_15 : decode cX6_takeBack 15 = .ok (.aload_n 0, 1) := by decide +kernel
theorem dX6_takeBack_16 : decode cX6_takeBack 16 = .ok (.getfield 47, 3) := by decide +kernel
theorem dX6_takeBack_19 : decode cX6_takeBack 19 = .ok (.iload_n 1, 1) := by decide +kernel
theorem dX6_takeBack_20 : decode cX6_takeBack 20 = .ok (.iload_n 2, 1) := by decide +kernel
theorem dX6_takeBack_21 : decode cX6_takeBack 21 = .ok (.invokevirtual 74, 3) := by decide +kernel
theorem dX6_takeBack_24 : decode cX6_takeBack 24 = .ok (.return_, 1) := by decide +kernel
set_option maxRecDepth 20000 in
theorem ggX6_quickOnes_X10_size : GoodIn wsX6_quickOnes wsX10_size := by first | exact goodIn_sub (show zy_S _ wsX6_quickOnes from (zy_c (zy_t (zy_l (zy_l (zy_t (zy_t (zy_t (zy_t (zy_t zy_h)))))))) (zy_a (zy_c (zy_t (zy_l (zy_l (zy_t (zy_t (zy_t (zy_t (zy_t (zy_t zy_h))))))))) zy_n) (zy_p (fun _ h => (zy_t (zy_r h))))))) (by decide +kernel) | exact goodIn_r _ [6, 7, 10, 11, 12, 13] (by decide +kernel) (by decide +kernel)
set_option maxRecDepth 20000 in
theorem gX6_quickOnes_X10_size : GoodIn wsX6_quickOnes (wsV RX6 34 RX10 yX10_size wsX10_size) := by first | exact goodIn_app (goodIn_sub (show zy_S _ wsX6_quickOnes from (zy_c (zy_t (zy_l (zy_l (zy_t zy_h)))) (zy_c (zy_t (zy_l (zy_l (zy_t (zy_t zy_h))))) (zy_c (zy_t (zy_l (zy_l (zy_t (zy_t (zy_t zy_h)))))) (zy_c (zy_t (zy_l (zy_l (zy_t (zy_t (zy_t (zy_t zy_h))))))) zy_n))))) (by decide +kernel)) ggX6_quickOnes_X10_size | exact goodIn_app (goodIn_of _ (by decide +kernel)) ggX6_quickOnes_X10_size
theorem dX6_quickOnes_0 : decode cX6_quickOnes 0 = .ok (.aload_n 0, 1) := by decide +kernel
theorem dX6_quickOnes_1 : decode cX6_quickOnes 1 = .ok (.getfield 14, 3) := by decide +kernel
theorem dX6_quickOnes_4 : decode cX6_quickOnes 4 = .ok (.invokevirtual 34, 3) := by decide +kernel
theorem dX6_quickOnes_7 : decode cX6_quickOnes 7 = .ok (.ireturn, 1) := by decide +kernel
set_option maxRecDepth 20000 in
theorem ggX7_init_X10_init : GoodIn wsX7_init wsX10_init := by first | exact goodIn_sub (show zy_S _ wsX7_init from (zy_c (zy_t (zy_l (zy_l (zy_l (zy_t (zy_t (zy_t (zy_t (zy_t (zy_t (zy_t (zy_t (zy_t (zy_t (zy_t (zy_t (zy_t (zy_t (zy_t (zy_t (zy_t (zy_t (zy_t zy_h))))))))))))))))))))))) (zy_a (zy_c (zy_t (zy_l (zy_l (zy_l (zy_t (zy_t (zy_t (zy_t (zy_t (zy_t (zy_t (zy_t (zy_t (zy_t (zy_t (zy_t (zy_t (zy_t (zy_t (zy_t (zy_t (zy_t (zy_t (zy_t zy_h)))))))))))))))))))))))) (zy_c (zy_t (zy_l (zy_l (zy_l (zy_t zy_h))))) (zy_c (zy_t (zy_l (zy_l (zy_l (zy_t (zy_t zy_h)))))) (zy_c (zy_t (zy_l (zy_l (zy_l (zy_t (zy_t (zy_t (zy_t (zy_t (zy_t (zy_t (zy_t (zy_t (zy_t (zy_t (zy_t (zy_t (zy_t (zy_t (zy_t (zy_t (zy_t (zy_t (zy_t (zy_t zy_h))))))))))))))))))))))))) (zy_c (zy_t (zy_l (zy_l (zy_l (zy_t (zy_t (zy_t (zy_t (zy_t (zy_t (zy_t (zy_t (zy_t (zy_t (zy_t (zy_t (zy_t (zy_t (zy_t (zy_t (zy_t (zy_t (zy_t (zy_t (zy_t (zy_t zy_h)))))))))))))))))))))))))) (zy_c (zy_t (zy_l (zy_l (zy_l (zy_t (zy_t (zy_t (zy_t (zy_t (zy_t (zy_t (zy_t (zy_t (zy_t (zy_t (zy_t (zy_t (zy_t (zy_t (zy_t (zy_t (zy_t (zy_t (zy_t (zy_t (zy_t (zy_t zy_h))))))))))))))))))))))))))) (zy_c (zy_t (zy_l (zy_l (zy_r zy_h)))) (zy_c (zy_t (zy_l (zy_l (zy_r (zy_t zy_h))))) (zy_c (zy_t (zy_l (zy_l (zy_r (zy_t (zy_t zy_h)))))) (zy_c (zy_t (zy_l (zy_l (zy_l (zy_t (zy_t (zy_t zy_h))))))) (zy_c (zy_t (zy_l (zy_l (zy_r (zy_t (zy_t (zy_t zy_h))))))) (zy_c (zy_t (zy_l (zy_l (zy_r (zy_t (zy_t (zy_t (zy_t zy_h)))))))) zy_n)))))))))))) (zy_p (fun _ h => (zy_t (zy_r h))))))) (by decide +kernel) | exact goodIn_r _ [20, 21, 2, 3, 22, 23, 24, 25, 26, 27, 4, 28, 29, 40, 41, 42, 43] (by decide +kernel) (by decide +kernel)
set_option maxRecDepth 20000 in
theorem gX7_init_X10_init : GoodIn wsX7_init (wsX10_init) := ggX7_init_X10_init
theorem dX7_init_0 : decode cX7_init 0 = .ok (.aload_n 0, 1) := by decide +kernel
theorem dX7_init_1 : decode cX7_init 1 = .ok (.invokespecial 3, 3) := by decide +kernel
theorem dX7_init_4 : decode cX7_init 4 = .ok (.aload_n 0, 1) := by decide +kernel
theorem dX7_init_5 : decode cX7_init 5 = .ok (.sipush 1024, 3) := by decide +kernel
theorem dX7_init_8 : decode cX7_init 8 = .ok (.newarray .int, 2) := by decide +kernel
theorem dX7_init_10 : decode cX7_init 10 = .ok (.putfield 9, 3) := by decide +kernel
theorem dX7_init_13 : decode cX7_init 13 = .ok (.aload_n 0, 1) := by decide +kernel
theorem dX7_init_14 : decode cX7_init 14 = .ok (.sipush 200, 3) := by decide +kernel
theorem dX7_init_17 : decode cX7_init 17 = .ok (.newarray .int, 2) := by decide +kernel
theorem dX7_init_19 : decode cX7_init 19 = .ok (.putfield 15, 3) := by decide +kernel
theorem dX7_init_22 : decode cX7_init 22 = .ok (.aload_n 0, 1) := by decide +kernel
theorem dX7_init_23 : decode cX7_init 23 = .ok (.sipush 200, 3) := by decide +kernel
theorem dX7_init_26 : decode cX7_init 26 = .ok (.newarray .int, 2) := by decide +kernel
theorem dX7_init_28 : decode cX7_init 28 = .ok (.putfield 18, 3) := by decide +kernel
theorem dX7_init_31 : decode cX7_init 31 = .ok (.aload_n 0, 1) := by decide +kernel
theorem dX7_init_32 : decode cX7_init 32 = .ok (.sipush 200, 3) := by decide +kernel
theorem dX7_init_35 : decode cX7_init 35 = .ok (.newarray .int, 2) := by decide +kernel
theorem dX7_init_37 : decode cX7_init 37 = .ok (.putfield 21, 3) := by decide +kernel
theorem dX7_init_40 : decode cX7_init 40 = .ok (.aload_n 0, 1) := by decide +kernel
theorem dX7_init_41 : decode cX7_init 41 = .ok (.sipush 200, 3) := by decide +kernel
theorem dX7_init_44 : decode cX7_init 44 = .ok (.newarray .int, 2) := by decide +kernel
theorem dX7_init_46 : decode cX7_init 46 = .ok (.putfield 24, 3) := by decide +kernel
theorem dX7_init_49 : decode cX7_init 49 = .ok (.aload_n 0, 1) := by decide +kernel
theorem dX7_init_50 : decode cX7_init 50 = .ok (.new 27, 3) := by decide +kernel
theorem dX7_init_53 : decode cX7_init 53 = .ok (.dup, 1) := by decide +kernel
theorem dX7_init_54 : decode cX7_init 54 = .ok (.sipush 512, 3) := by decide +kernel
theorem dX7_init_57 : decode cX7_init 57 = .ok (.invokespecial 29, 3) := by decide +kernel
theorem dX7_init_60 : decode cX7_init 60 = .ok (.putfield 32, 3) := by decide +kernel
theorem dX7_init_63 : decode cX7_init 63 = .ok (.aload_n 0, 1) := by decide +kernel
theorem dX7_init_64 : decode cX7_init 64 = .ok (.iconst 0, 1) := by decide +kernel
theorem dX7_init_65 : decode cX7_init 65 = .ok (.putfield 36, 3) := by decide +kernel
theorem dX7_init_68 : decode cX7_init 68 = .ok (.aload_n 0, 1) := by decide +kernel
theorem dX7_init_69 : decode cX7_init 69 = .ok (.iconst 0, 1) := by decide +kernel
theorem dX7_init_70 : decode cX7_init 70 = .ok (.putfield 40, 3) := by decide +kernel
theorem dX7_init_73 : decode cX7_init 73 = .ok (.aload_n 0, 1) := by decide +kernel
theorem dX7_init_74 : decode cX7_init 74 = .ok (.iconst 0, 1) := by decide +kernel
theorem dX7_init_75 : decode cX7_init 75 = .ok (.putfield 43, 3) := by decide +kernel
theorem dX7_init_78 : decode cX7_init 78 = .ok (.aload_n 0, 1) := by decide +kernel
theorem dX7_init_79 : decode cX7_init 79 = .ok (.iconst 0, 1) := by decide +kernel
theorem dX7_init_80 : decode cX7_init 80 = .ok (.putfield 46, 3) := by decide +kernel
theorem dX7_init_83 : decode cX7_init 83 = .ok (.return_, 1) := by decide +kernel
set_option maxRecDepth 20000 in
theorem ggX7_empty_J7_fill_53178 : GoodIn wsX7_empty wsJ7_fill_53178 := by first | exact goodIn_sub (show zy_S _ wsX7_empty from (zy_c (zy_t (zy_l (zy_t (zy_t (zy_t (zy_t (zy_t (zy_t (zy_t (zy_t (zy_t (zy_t (zy_t (zy_t (zy_t (zy_t (zy_t zy_h))))))))))))))))) zy_n)) (by decide +kernel) | exact goodIn_r _ [16] (by decide +kernel) (by decide +kernel)
set_option maxRecDepth 20000 in
theorem gX7_empty_J7_fill_53178 : GoodIn wsX7_empty (va_wsS RX7 58 yJ7_fill_53178 wsJ7_fill_53178) := by first | exact goodIn_app (goodIn_sub (show zy_S _ wsX7_empty from (zy_c (zy_t (zy_l (zy_t (zy_t (zy_t (zy_t (zy_t (zy_t (zy_t (zy_t (zy_t (zy_t (zy_t (zy_t zy_h)))))))))))))) (zy_c (zy_t (zy_l (zy_t (zy_t (zy_t (zy_t (zy_t (zy_t (zy_t (zy_t (zy_t (zy_t (zy_t (zy_t (zy_t zy_h))))))))))))))) (zy_c (zy_t (zy_l (zy_t (zy_t (zy_t (zy_t (zy_t (zy_t (zy_t (zy_t (zy_t (zy_t (zy_t (zy_t (zy_t (zy_t zy_h)))))))))))))))) zy_n)))) (by decide +kernel)) ggX7_empty_J7_fill_53178 | exact goodIn_app (goodIn_of _ (by decide +kernel)) ggX7_empty_J7_fill_53178
theorem dX7_empty_0 : decode cX7_empty 0 = .ok (.aload_n 0, 1) := by decide +kernel
theorem dX7_empty_1 : decode cX7_empty 1 = .ok (.iload_n 1, 1) := by decide +kernel
theorem dX7_empty_2 : decode cX7_empty 2 = .ok (.iconst 0, 1) := by decide +kernel
theorem dX7_empty_3 : decode cX7_empty 3 = .ok (.invokestatic 49, 3) := by decide +kernel
theorem dX7_empty_6 : decode cX7_empty 6 = .ok (.sipush 1024, 3) := by decide +kernel
theorem dX7_empty_9 : decode cX7_empty 9 = .ok (.invokestatic 55, 3) := by decide +kernel
theorem dX7_empty_12 : decode cX7_empty 12 = .ok (.putfield 36, 3) := by decide +kernel
theorem dX7_empty_15 : decode cX7_empty 15 = .ok (.aload_n 0, 1) := by decide +kernel
theorem dX7_empty_16 : decode cX7_empty 16 = .ok (.iconst 0, 1) := by decide +kernel
theorem dX7_empty_17 : decode cX7_empty 17 = .ok (.putfield 40, 3) := by decide +kernel
theorem dX7_empty_20 : decode cX7_empty 20 = .ok (.aload_n 0, 1) := by decide +kernel
theorem dX7_empty_21 : decode cX7_empty 21 = .ok (.iconst 0, 1) := by decide +kernel
theorem dX7_empty_22 : decode cX7_empty 22 = .ok (.putfield 43, 3) := by decide +kernel
theorem dX7_empty_25 : decode cX7_empty 25 = .ok (.aload_n 0, 1) := by decide +kernel
theorem dX7_empty_26 : decode cX7_empty 26 = .ok (.iconst 0, 1) := by decide +kernel
theorem dX7_empty_27 : decode cX7_empty 27 = .ok (.putfield 46, 3) := by decide +kernel
theorem dX7_empty_30 : decode cX7_empty 30 = .ok (.aload_n 0, 1) := by decide +kernel
theorem dX7_empty_31 : decode cX7_empty 31 = .ok (.getfield 9, 3) := by decide +kernel
theorem dX7_empty_34 : decode cX7_empty 34 = .ok (.iconst (-1), 1) := by decide +kernel
theorem dX7_empty_35 : decode cX7_empty 35 = .ok (.invokestatic 58, 3) := by decide +kernel
theorem dX7_empty_38 : decode cX7_empty 38 = .ok (.return_, 1) := by decide +kernel
theorem dX7_words_0 : decode cX7_words 0 = .ok (.aload_n 0, 1) := by decide +kernel
theorem dX7_words_1 : decode cX7_words 1 = .ok (.getfield 36, 3) := by decide +kernel
theorem dX7_words_4 : decode cX7_words 4 = .ok (.ireturn, 1) := by decide +kernel
theorem dX7_blocks_0 : decode cX7_blocks 0 = .ok (.aload_n 0, 1) := by decide +kernel
theorem dX7_blocks_1 : decode cX7_blocks 1 = .ok (.getfield 40, 3) := by decide +kernel
theorem dX7_blocks_4 : decode cX7_blocks 4 = .ok (.ireturn, 1) := by decide +kernel
theorem dX7_given_0 : decode cX7_given 0 = .ok (.aload_n 0, 1) := by decide +kernel
theorem dX7_given_1 : decode cX7_given 1 = .ok (.getfield 43, 3) := by decide +kernel
theorem dX7_given_4 : decode cX7_given 4 = .ok (.ireturn, 1) := by decide +kernel
theorem dX7_looked_0 : decode cX7_looked 0 = .ok (.aload_n 0, 1) := by decide +kernel
theorem dX7_looked_1 : decode cX7_looked 1 = .ok (.getfield 46, 3) := by decide +kernel
theorem dX7_looked_4 : decode cX7_looked 4 = .ok (.ireturn, 1) := by decide +kernel
theorem dX7_addLooked_0 : decode cX7_addLooked 0 = .ok (.aload_n 0, 1) := by decide +kernel
theorem dX7_addLooked_1 : decode cX7_addLooked 1 = .ok (.dup, 1) := by decide +kernel
theorem dX7_addLooked_2 : decode cX7_addLooked 2 = .ok (.getfield 46, 3) := by decide +kernel
theorem dX7_addLooked_5 : decode cX7_addLooked 5 = .ok (.iload_n 1, 1) := by decide +kernel
theorem dX7_addLooked_6 : decode cX7_addLooked 6 = .ok (.iadd, 1) := by decide +kernel
theorem dX7_addLooked_7 : decode cX7_addLooked 7 = .ok (.putfield 46, 3) := by decide +kernel
theorem dX7_addLooked_10 : decode cX7_addLooked 10 = .ok (.return_, 1) := by decide +kernel
set_option maxRecDepth 20000 in
theorem ggX7_settle_X7_mark : GoodIn wsX7_settle wsX7_mark := by first | exact goodIn_sub (show zy_S _ wsX7_settle from (zy_c (zy_t (zy_l (zy_t (zy_t (zy_t (zy_t (zy_t (zy_t (zy_t (zy_t (zy_t (zy_t zy_h)))))))))))) (zy_a (zy_c (zy_t (zy_l (zy_t (zy_t (zy_t (zy_t (zy_t (zy_t (zy_t (zy_t (zy_t (zy_t (zy_t zy_h))))))))))))) (zy_c (zy_t (zy_l (zy_t (zy_t (zy_t (zy_t (zy_t (zy_t (zy_t (zy_t (zy_t (zy_t (zy_t (zy_t zy_h)))))))))))))) (zy_c (zy_t (zy_l (zy_t (zy_t (zy_t (zy_t (zy_t (zy_t (zy_t (zy_t (zy_t (zy_t (zy_t (zy_t (zy_t zy_h))))))))))))))) (zy_c (zy_t (zy_l (zy_t (zy_t (zy_t (zy_t (zy_t (zy_t (zy_t (zy_t (zy_t (zy_t (zy_t (zy_t (zy_t (zy_t zy_h)))))))))))))))) (zy_c (zy_t (zy_l (zy_t (zy_t (zy_t (zy_t (zy_t (zy_t (zy_t (zy_t (zy_t (zy_t (zy_t (zy_t (zy_t (zy_t (zy_t zy_h))))))))))))))))) (zy_c (zy_t (zy_l (zy_t (zy_t (zy_t (zy_t (zy_t (zy_t (zy_t (zy_t (zy_t (zy_t (zy_t (zy_t (zy_t (zy_t (zy_t (zy_t zy_h)))))))))))))))))) (zy_c (zy_t (zy_l (zy_t (zy_t (zy_t (zy_t (zy_t (zy_t (zy_t (zy_t (zy_t (zy_t (zy_t (zy_t (zy_t (zy_t (zy_t (zy_t (zy_t zy_h))))))))))))))))))) (zy_c (zy_t (zy_l (zy_t (zy_t (zy_t (zy_t (zy_t (zy_t (zy_t (zy_t (zy_t (zy_t (zy_t (zy_t (zy_t (zy_t (zy_t (zy_t (zy_t (zy_t zy_h)))))))))))))))))))) (zy_c (zy_t (zy_l (zy_t (zy_t (zy_t (zy_t (zy_t (zy_t (zy_t (zy_t (zy_t (zy_t (zy_t (zy_t (zy_t (zy_t (zy_t (zy_t (zy_t (zy_t (zy_t zy_h))))))))))))))))))))) zy_n))))))))) (zy_p (fun _ h => (zy_t (zy_r h))))))) (by decide +kernel) | exact goodIn_r _ [11, 12, 13, 14, 15, 16, 17, 18, 19, 20, 21, 22, 23, 24, 25, 26, 27, 28, 29, 30] (by decide +kernel) (by decide +kernel)
set_option maxRecDepth 20000 in
theorem gX7_settle_X7_mark : GoodIn wsX7_settle (wsV RX7 64 RX7 yX7_mark wsX7_mark) := by first | exact goodIn_app (goodIn_sub (show zy_S _ wsX7_settle from (zy_c (zy_t (zy_l (zy_t (zy_t (zy_t (zy_t (zy_t (zy_t zy_h)))))))) (zy_c (zy_t (zy_l (zy_t (zy_t (zy_t (zy_t (zy_t (zy_t (zy_t zy_h))))))))) (zy_c (zy_t (zy_l (zy_t (zy_t (zy_t (zy_t (zy_t (zy_t (zy_t (zy_t zy_h)))))))))) (zy_c (zy_t (zy_l (zy_t (zy_t (zy_t (zy_t (zy_t (zy_t (zy_t (zy_t (zy_t zy_h))))))))))) zy_n))))) (by decide +kernel)) ggX7_settle_X7_mark | exact goodIn_app (goodIn_of _ (by decide +kernel)) ggX7_settle_X7_mark
theorem dX7_settle_0 : decode cX7_settle 0 = .ok (.aload_n 0, 1) := by decide +kernel
theorem dX7_settle_1 : decode cX7_settle 1 = .ok (.getfield 40, 3) := by decide +kernel
theorem dX7_settle_4 : decode cX7_settle 4 = .ok (.sipush 200, 3) := by decide +kernel
theorem dX7_settle_7 : decode cX7_settle 7 = .ok (.if_icmp .lt 5, 3) := by decide +kernel
theorem dX7_settle_10 : decode cX7_settle 10 = .ok (.iconst (-1), 1) := by decide +kernel
theorem dX7_settle_11 : decode cX7_settle 11 = .ok (.ireturn, 1) := by decide +kernel
theorem dX7_settle_12 : decode cX7_settle 12 = .ok (.aload_n 0, 1) := by decide +kernel
theorem dX7_settle_13 : decode cX7_settle 13 = .ok (.getfield 43, 3) := by decide +kernel
theorem dX7_settle_16 : decode cX7_settle 16 = .ok (.istore 4, 2) := by decide +kernel
theorem dX7_settle_18 : decode cX7_settle 18 = .ok (.aload_n 0, 1) := by decide +kernel
theorem dX7_settle_19 : decode cX7_settle 19 = .ok (.getfield 15, 3) := by decide +kernel
theorem dX7_settle_22 : decode cX7_settle 22 = .ok (.aload_n 0, 1) := by decide +kernel
theorem dX7_settle_23 : decode cX7_settle 23 = .ok (.getfield 40, 3) := by decide +kernel
theorem dX7_settle_26 : decode cX7_settle 26 = .ok (.iload 4, 2) := by decide +kernel
theorem dX7_settle_28 : decode cX7_settle 28 = .ok (.iastore, 1) := by decide +kernel
theorem dX7_settle_29 : decode cX7_settle 29 = .ok (.aload_n 0, 1) := by decide +kernel
theorem dX7_settle_30 : decode cX7_settle 30 = .ok (.getfield 18, 3) := by decide +kernel
theorem dX7_settle_33 : decode cX7_settle 33 = .ok (.aload_n 0, 1) := by decide +kernel
theorem dX7_settle_34 : decode cX7_settle 34 = .ok (.getfield 40, 3) := by decide +kernel
theorem dX7_settle_37 : decode cX7_settle 37 = .ok (.iload_n 1, 1) := by decide +kernel
theorem dX7_settle_38 : decode cX7_settle 38 = .ok (.iastore, 1) := by decide +kernel
theorem dX7_settle_39 : decode cX7_settle 39 = .ok (.aload_n 0, 1) := by decide +kernel
theorem dX7_settle_40 : decode cX7_settle 40 = .ok (.getfield 21, 3) := by decide +kernel
theorem dX7_settle_43 : decode cX7_settle 43 = .ok (.aload_n 0, 1) := by decide +kernel
theorem dX7_settle_44 : decode cX7_settle 44 = .ok (.getfield 40, 3) := by decide +kernel
theorem dX7_settle_47 : decode cX7_settle 47 = .ok (.iload_n 2, 1) := by decide +kernel
theorem dX7_settle_48 : decode cX7_settle 48 = .ok (.iastore, 1) := by decide +kernel
theorem dX7_settle_49 : decode cX7_settle 49 = .ok (.aload_n 0, 1) := by decide +kernel
theorem dX7_settle_50 : decode cX7_settle 50 = .ok (.getfield 24, 3) := by decide +kernel
theorem dX7_settle_53 : decode cX7_settle 53 = .ok (.aload_n 0, 1) := by decide +kernel
theorem dX7_settle_54 : decode cX7_settle 54 = .ok (.getfield 40, 3) := by decide +kernel
theorem dX7_settle_57 : decode cX7_settle 57 = .ok (.iload_n 3, 1) := by decide +kernel
theorem dX7_settle_58 : decode cX7_settle 58 = .ok (.iastore, 1) := by decide +kernel
theorem dX7_settle_59 : decode cX7_settle 59 = .ok (.aload_n 0, 1) := by decide +kernel
theorem dX7_settle_60 : decode cX7_settle 60 = .ok (.dup, 1) := by decide +kernel
theorem dX7_settle_61 : decode cX7_settle 61 = .ok (.getfield 40, 3) := by decide +kernel
theorem dX7_settle_64 : decode cX7_settle 64 = .ok (.iconst 1, 1) := by decide +kernel
theorem dX7_settle_65 : decode cX7_settle 65 = .ok (.iadd, 1) := by decide +kernel
theorem dX7_settle_66 : decode cX7_settle 66 = .ok (.putfield 40, 3) := by decide +kernel
theorem dX7_settle_69 : decode cX7_settle 69 = .ok (.aload_n 0, 1) := by decide +kernel
theorem dX7_settle_70 : decode cX7_settle 70 = .ok (.dup, 1) := by decide +kernel
theorem dX7_settle_71 : decode cX7_settle 71 = .ok (.getfield 43, 3) := by decide +kernel
theorem dX7_settle_74 : decode cX7_settle 74 = .ok (.iconst 1, 1) := by decide +kernel
theorem dX7_settle_75 : decode cX7_settle 75 = .ok (.iadd, 1) := by decide +kernel
theorem dX7_settle_76 : decode cX7_settle 76 = .ok (.putfield 43, 3) := by decide +kernel
theorem dX7_settle_79 : decode cX7_settle 79 = .ok (.aload_n 0, 1) := by decide +kernel
theorem dX7_settle_80 : decode cX7_settle 80 = .ok (.iload_n 1, 1) := by decide +kernel
theorem dX7_settle_81 : decode cX7_settle 81 = .ok (.iload_n 2, 1) := by decide +kernel
theorem dX7_settle_82 : decode cX7_settle 82 = .ok (.iload 4, 2) := by decide +kernel
theorem dX7_settle_84 : decode cX7_settle 84 = .ok (.invokevirtual 64, 3) := by decide +kernel
theorem dX7_settle_87 : decode cX7_settle 87 = .ok (.iload 4, 2) := by decide +kernel
theorem dX7_settle_89 : decode cX7_settle 89 = .ok (.ireturn, 1) := by decide +kernel
set_option maxRecDepth 20000 in
theorem ggX7_remove_X7_mark : GoodIn wsX7_remove wsX7_mark := by first | exact goodIn_sub (show zy_S _ wsX7_remove from (zy_c (zy_t (zy_l (zy_t (zy_t (zy_t (zy_t (zy_t (zy_t (zy_t (zy_t (zy_t zy_h))))))))))) (zy_a (zy_c (zy_t (zy_l (zy_t (zy_t (zy_t (zy_t (zy_t (zy_t (zy_t (zy_t (zy_t (zy_t zy_h)))))))))))) (zy_c (zy_t (zy_l (zy_t (zy_t (zy_t (zy_t (zy_t (zy_t (zy_t (zy_t (zy_t (zy_t (zy_t zy_h))))))))))))) (zy_c (zy_t (zy_l (zy_t (zy_t (zy_t (zy_t (zy_t (zy_t (zy_t (zy_t (zy_t (zy_t (zy_t (zy_t zy_h)))))))))))))) (zy_c (zy_t (zy_l (zy_t (zy_t (zy_t (zy_t (zy_t (zy_t (zy_t (zy_t (zy_t (zy_t (zy_t (zy_t (zy_t zy_h))))))))))))))) (zy_c (zy_t (zy_l (zy_t (zy_t (zy_t (zy_t (zy_t (zy_t (zy_t (zy_t (zy_t (zy_t (zy_t (zy_t (zy_t (zy_t zy_h)))))))))))))))) (zy_c (zy_t (zy_l (zy_t (zy_t (zy_t (zy_t (zy_t (zy_t (zy_t (zy_t (zy_t (zy_t (zy_t (zy_t (zy_t (zy_t (zy_t zy_h))))))))))))))))) (zy_c (zy_t (zy_l (zy_t (zy_t (zy_t (zy_t (zy_t (zy_t (zy_t (zy_t (zy_t (zy_t (zy_t (zy_t (zy_t (zy_t (zy_t (zy_t zy_h)))))))))))))))))) (zy_c (zy_t (zy_l (zy_t (zy_t (zy_t (zy_t (zy_t (zy_t (zy_t (zy_t (zy_t (zy_t (zy_t (zy_t (zy_t (zy_t (zy_t (zy_t (zy_t zy_h))))))))))))))))))) (zy_c (zy_t (zy_l (zy_t (zy_t (zy_t (zy_t (zy_t (zy_t (zy_t (zy_t (zy_t (zy_t (zy_t (zy_t (zy_t (zy_t (zy_t (zy_t (zy_t (zy_t zy_h)))))))))))))))))))) zy_n))))))))) (zy_p (fun _ h => (zy_t (zy_r h))))))) (by decide +kernel) | exact goodIn_r _ [10, 11, 12, 13, 14, 15, 16, 17, 18, 19, 20, 21, 22, 23, 24, 25, 26, 27, 28, 29] (by decide +kernel) (by decide +kernel)
set_option maxRecDepth 20000 in
theorem gX7_remove_X7_mark : GoodIn wsX7_remove (wsV RX7 64 RX7 yX7_mark wsX7_mark) := by first | exact goodIn_app (goodIn_sub (show zy_S _ wsX7_remove from (zy_c (zy_t (zy_l (zy_t (zy_t (zy_t (zy_t (zy_t zy_h))))))) (zy_c (zy_t (zy_l (zy_t (zy_t (zy_t (zy_t (zy_t (zy_t zy_h)))))))) (zy_c (zy_t (zy_l (zy_t (zy_t (zy_t (zy_t (zy_t (zy_t (zy_t zy_h))))))))) (zy_c (zy_t (zy_l (zy_t (zy_t (zy_t (zy_t (zy_t (zy_t (zy_t (zy_t zy_h)))))))))) zy_n))))) (by decide +kernel)) ggX7_remove_X7_mark | exact goodIn_app (goodIn_of _ (by decide +kernel)) ggX7_remove_X7_mark
theorem dX7_remove_0 : decode cX7_remove 0 = .ok (.iload_n 1, 1) := by decide +kernel
theorem dX7_remove_1 : decode cX7_remove 1 = .ok (.ifCond .lt 11, 3) := by decide +kernel
theorem dX7_remove_4 : decode cX7_remove 4 = .ok (.iload_n 1, 1) := by decide +kernel
theorem dX7_remove_5 : decode cX7_remove 5 = .ok (.aload_n 0, 1) := by decide +kernel
theorem dX7_remove_6 : decode cX7_remove 6 = .ok (.getfield 40, 3) := by decide +kernel
theorem dX7_remove_9 : decode cX7_remove 9 = .ok (.if_icmp .lt 4, 3) := by decide +kernel
theorem dX7_remove_12 : decode cX7_remove 12 = .ok (.return_, 1) := by decide +kernel
theorem dX7_remove_13 : decode cX7_remove 13 = .ok (.aload_n 0, 1) := by decide +kernel
theorem dX7_remove_14 : decode cX7_remove 14 = .ok (.aload_n 0, 1) := by decide +kernel
theorem dX7_remove_15 : decode cX7_remove 15 = .ok (.getfield 18, 3) := by decide +kernel
theorem dX7_remove_18 : decode cX7_remove 18 = .ok (.iload_n 1, 1) := by decide +kernel
theorem dX7_remove_19 : decode cX7_remove 19 = .ok (.iaload, 1) := by decide +kernel
theorem dX7_remove_20 : decode cX7_remove 20 = .ok (.aload_n 0, 1) := by decide +kernel
theorem dX7_remove_21 : decode cX7_remove 21 = .ok (.getfield 21, 3) := by decide +kernel
theorem dX7_remove_24 : decode cX7_remove 24 = .ok (.iload_n 1, 1) := by decide +kernel
theorem dX7_remove_25 : decode cX7_remove 25 = .ok (.iaload, 1) := by decide +kernel
theorem dX7_remove_26 : decode cX7_remove 26 = .ok (.iconst (-1), 1) := by decide +kernel
theorem dX7_remove_27 : decode cX7_remove 27 = .ok (.invokevirtual 64, 3) := by decide +kernel
theorem dX7_remove_30 : decode cX7_remove 30 = .ok (.aload_n 0, 1) := by decide +kernel
theorem dX7_remove_31 : decode cX7_remove 31 = .ok (.dup, 1) := by decide +kernel
theorem dX7_remove_32 : decode cX7_remove 32 = .ok (.getfield 40, 3) := by decide +kernel
theorem dX7_remove_35 : decode cX7_remove 35 = .ok (.iconst 1, 1) := by decide +kernel
theorem dX7_remove_36 : decode cX7_remove 36 = .ok (.isub, 1) := by decide +kernel
theorem dX7_remove_37 : decode cX7_remove 37 = .ok (.putfield 40, 3) := by decide +kernel
theorem dX7_remove_40 : decode cX7_remove 40 = .ok (.aload_n 0, 1) := by decide +kernel
theorem dX7_remove_41 : decode cX7_remove 41 = .ok (.getfield 15, 3) := by decide +kernel
theorem dX7_remove_44 : decode cX7_remove 44 = .ok (.iload_n 1, 1) := by decide +kernel
theorem dX7_remove_45 : decode cX7_remove 45 = .ok (.aload_n 0, 1) := by decide +kernel
theorem dX7_remove_46 : decode cX7_remove 46 = .ok (.getfield 15, 3) := by decide +kernel
theorem dX7_remove_49 : decode cX7_remove 49 = .ok (.aload_n 0, 1) := by decide +kernel
theorem dX7_remove_50 : decode cX7_remove 50 = .ok (.getfield 40, 3) := by decide +kernel
theorem dX7_remove_53 : decode cX7_remove 53 = .ok (.iaload, 1) := by decide +kernel
theorem dX7_remove_54 : decode cX7_remove 54 = .ok (.iastore, 1) := by decide +kernel
theorem dX7_remove_55 : decode cX7_remove 55 = .ok (.aload_n 0, 1) := by decide +kernel
theorem dX7_remove_56 : decode cX7_remove 56 = .ok (.getfield 18, 3) := by decide +kernel
theorem dX7_remove_59 : decode cX7_remove 59 = .ok (.iload_n 1, 1) := by decide +kernel
theorem dX7_remove_60 : decode cX7_remove 60 = .ok (.aload_n 0, 1) := by decide +kernel
theorem dX7_remove_61 : decode cX7_remove 61 = .ok (.getfield 18, 3) := by decide +kernel
theorem dX7_remove_64 : decode cX7_remove 64 = .ok (.aload_n 0, 1) := by decide +kernel
theorem dX7_remove_65 : decode cX7_remove 65 = .ok (.getfield 40, 3) := by decide +kernel
theorem dX7_remove_68 : decode cX7_remove 68 = .ok (.iaload, 1) := by decide +kernel
theorem dX7_remove_69 : decode cX7_remove 69 = .ok (.iastore, 1) := by decide +kernel
theorem dX7_remove_70 : decode cX7_remove 70 = .ok (.aload_n 0, 1) := by decide +kernel
theorem dX7_remove_71 : decode cX7_remove 71 = .ok (.getfield 21, 3) := by decide +kernel
theorem dX7_remove_74 : decode cX7_remove 74 = .ok (.iload_n 1, 1) := by decide +kernel
theorem dX7_remove_75 : decode cX7_remove 75 = .ok (.aload_n 0, 1) := by decide +kernel
theorem dX7_remove_76 : decode cX7_remove 76 = .ok (.getfield 21, 3) := by decide +kernel
theorem dX7_remove_79 : decode cX7_remove 79 = .ok (.aload_n 0, 1) := by decide +kernel
theorem dX7_remove_80 : decode cX7_remove 80 = .ok (.getfield 40, 3) := by decide +kernel
theorem dX7_remove_83 : decode cX7_remove 83 = .ok (.iaload, 1) := by decide +kernel
theorem dX7_remove_84 : decode cX7_remove 84 = .ok (.iastore, 1) := by decide +kernel
theorem dX7_remove_85 : decode cX7_remove 85 = .ok (.aload_n 0, 1) := by decide +kernel
theorem dX7_remove_86 : decode cX7_remove 86 = .ok (.getfield 24, 3) := by decide +kernel
theorem dX7_remove_89 : decode cX7_remove 89 = .ok (.iload_n 1, 1) := by decide +kernel
theorem dX7_remove_90 : decode cX7_remove 90 = .ok (.aload_n 0, 1) := by decide +kernel
theorem dX7_remove_91 : decode cX7_remove 91 = .ok (.getfield 24, 3) := by decide +kernel
theorem dX7_remove_94 : decode cX7_remove 94 = .ok (.aload_n 0, 1) := by decide +kernel
theorem dX7_remove_95 : decode cX7_remove 95 = .ok (.getfield 40, 3) := by decide +kernel
theorem dX7_remove_98 : decode cX7_remove 98 = .ok (.iaload, 1) := by decide +kernel
theorem dX7_remove_99 : decode cX7_remove 99 = .ok (.iastore, 1) := by decide +kernel
theorem dX7_remove_100 : decode cX7_remove 100 = .ok (.return_, 1) := by decide +kernel
set_option maxRecDepth 20000 in
theorem ggX7_markQuick_X7_mark : GoodIn wsX7_markQuick wsX7_mark := by first | exact goodIn_sub (show zy_S _ wsX7_markQuick from (zy_c (zy_t (zy_l (zy_t (zy_t (zy_t (zy_t zy_h)))))) (zy_a (zy_c (zy_t (zy_l (zy_t (zy_t (zy_t (zy_t (zy_t zy_h))))))) (zy_c (zy_t (zy_l (zy_t (zy_t (zy_t (zy_t (zy_t (zy_t zy_h)))))))) (zy_c (zy_t (zy_l (zy_t (zy_t (zy_t (zy_t (zy_t (zy_t (zy_t zy_h))))))))) (zy_c (zy_t (zy_l (zy_t (zy_t (zy_t (zy_t (zy_t (zy_t (zy_t (zy_t zy_h)))))))))) (zy_c (zy_t (zy_l (zy_t (zy_t (zy_t (zy_t (zy_t (zy_t (zy_t (zy_t (zy_t zy_h))))))))))) (zy_c (zy_t (zy_l (zy_t (zy_t (zy_t (zy_t (zy_t (zy_t (zy_t (zy_t (zy_t (zy_t zy_h)))))))))))) (zy_c (zy_t (zy_l (zy_t (zy_t (zy_t (zy_t (zy_t (zy_t (zy_t (zy_t (zy_t (zy_t (zy_t zy_h))))))))))))) (zy_c (zy_t (zy_l (zy_t (zy_t (zy_t (zy_t (zy_t (zy_t (zy_t (zy_t (zy_t (zy_t (zy_t (zy_t zy_h)))))))))))))) (zy_c (zy_t (zy_l (zy_t (zy_t (zy_t (zy_t (zy_t (zy_t (zy_t (zy_t (zy_t (zy_t (zy_t (zy_t (zy_t zy_h))))))))))))))) zy_n))))))))) (zy_p (fun _ h => (zy_t (zy_r h))))))) (by decide +kernel) | exact goodIn_r _ [5, 6, 7, 8, 9, 10, 11, 12, 13, 14, 15, 16, 17, 18, 19, 20, 21, 22, 23, 24] (by decide +kernel) (by decide +kernel)
set_option maxRecDepth 20000 in
theorem gX7_markQuick_X7_mark : GoodIn wsX7_markQuick (wsV RX7 64 RX7 yX7_mark wsX7_mark) := by first | exact goodIn_app (goodIn_sub (show zy_S _ wsX7_markQuick from (zy_c (zy_t (zy_l zy_h)) (zy_c (zy_t (zy_l (zy_t zy_h))) (zy_c (zy_t (zy_l (zy_t (zy_t zy_h)))) (zy_c (zy_t (zy_l (zy_t (zy_t (zy_t zy_h))))) zy_n))))) (by decide +kernel)) ggX7_markQuick_X7_mark | exact goodIn_app (goodIn_of _ (by decide +kernel)) ggX7_markQuick_X7_mark
theorem dX7_markQuick_0 : decode cX7_markQuick 0 = .ok (.aload_n 0, 1) := by decide +kernel
theorem dX7_markQuick_1 : decode cX7_markQuick 1 = .ok (.iload_n 1, 1) := by decide +kernel
theorem dX7_markQuick_2 : decode cX7_markQuick 2 = .ok (.iload_n 2, 1) := by decide +kernel
theorem dX7_markQuick_3 : decode cX7_markQuick 3 = .ok (.bipush (-2), 2) := by decide +kernel
theorem dX7_markQuick_5 : decode cX7_markQuick 5 = .ok (.invokevirtual 64, 3) := by decide +kernel
theorem dX7_markQuick_8 : decode cX7_markQuick 8 = .ok (.return_, 1) := by decide +kernel
set_option maxRecDepth 20000 in
theorem ggX7_markFree_X7_mark : GoodIn wsX7_markFree wsX7_mark := by first | exact goodIn_sub (show zy_S _ wsX7_markFree from (zy_c (zy_t (zy_l (zy_t (zy_t (zy_t (zy_t zy_h)))))) (zy_a (zy_c (zy_t (zy_l (zy_t (zy_t (zy_t (zy_t (zy_t zy_h))))))) (zy_c (zy_t (zy_l (zy_t (zy_t (zy_t (zy_t (zy_t (zy_t zy_h)))))))) (zy_c (zy_t (zy_l (zy_t (zy_t (zy_t (zy_t (zy_t (zy_t (zy_t zy_h))))))))) (zy_c (zy_t (zy_l (zy_t (zy_t (zy_t (zy_t (zy_t (zy_t (zy_t (zy_t zy_h)))))))))) (zy_c (zy_t (zy_l (zy_t (zy_t (zy_t (zy_t (zy_t (zy_t (zy_t (zy_t (zy_t zy_h))))))))))) (zy_c (zy_t (zy_l (zy_t (zy_t (zy_t (zy_t (zy_t (zy_t (zy_t (zy_t (zy_t (zy_t zy_h)))))))))))) (zy_c (zy_t (zy_l (zy_t (zy_t (zy_t (zy_t (zy_t (zy_t (zy_t (zy_t (zy_t (zy_t (zy_t zy_h))))))))))))) (zy_c (zy_t (zy_l (zy_t (zy_t (zy_t (zy_t (zy_t (zy_t (zy_t (zy_t (zy_t (zy_t (zy_t (zy_t zy_h)))))))))))))) (zy_c (zy_t (zy_l (zy_t (zy_t (zy_t (zy_t (zy_t (zy_t (zy_t (zy_t (zy_t (zy_t (zy_t (zy_t (zy_t zy_h))))))))))))))) zy_n))))))))) (zy_p (fun _ h => (zy_t (zy_r h))))))) (by decide +kernel) | exact goodIn_r _ [5, 6, 7, 8, 9, 10, 11, 12, 13, 14, 15, 16, 17, 18, 19, 20, 21, 22, 23, 24] (by decide +kernel) (by decide +kernel)
set_option maxRecDepth 20000 in
theorem gX7_markFree_X7_mark : GoodIn wsX7_markFree (wsV RX7 64 RX7 yX7_mark wsX7_mark) := by first | exact goodIn_app (goodIn_sub (show zy_S _ wsX7_markFree from (zy_c (zy_t (zy_l zy_h)) (zy_c (zy_t (zy_l (zy_t zy_h))) (zy_c (zy_t (zy_l (zy_t (zy_t zy_h)))) (zy_c (zy_t (zy_l (zy_t (zy_t (zy_t zy_h))))) zy_n))))) (by decide +kernel)) ggX7_markFree_X7_mark | exact goodIn_app (goodIn_of _ (by decide +kernel)) ggX7_markFree_X7_mark
theorem dX7_markFree_0 : decode cX7_markFree 0 = .ok (.aload_n 0, 1) := by decide +kernel
theorem dX7_markFree_1 : decode cX7_markFree 1 = .ok (.iload_n 1, 1) := by decide +kernel
theorem dX7_markFree_2 : decode cX7_markFree 2 = .ok (.iload_n 2, 1) := by decide +kernel
theorem dX7_markFree_3 : decode cX7_markFree 3 = .ok (.iconst (-1), 1) := by decide +kernel
theorem dX7_markFree_4 : decode cX7_markFree 4 = .ok (.invokevirtual 64, 3) := by decide +kernel
theorem dX7_markFree_7 : decode cX7_markFree 7 = .ok (.return_, 1) := by decide +kernel
theorem dX7_mark_0 : decode cX7_mark 0 = .ok (.iload_n 1, 1) := by decide +kernel
theorem dX7_mark_1 : decode cX7_mark 1 = .ok (.iload_n 2, 1) := by decide +kernel
theorem dX7_mark_2 : decode cX7_mark 2 = .ok (.iadd, 1) := by decide +kernel
theorem dX7_mark_3 : decode cX7_mark 3 = .ok (.aload_n 0, 1) := by decide +kernel
theorem dX7_mark_4 : decode cX7_mark 4 = .ok (.getfield 36, 3) := by decide +kernel
theorem dX7_mark_7 : decode cX7_mark 7 = .ok (.invokestatic 55, 3) := by decide +kernel
theorem dX7_mark_10 : decode cX7_mark 10 = .ok (.istore 4, 2) := by decide +kernel
theorem dX7_mark_12 : decode cX7_mark 12 = .ok (.iload_n 1, 1) := by decide +kernel
theorem dX7_mark_13 : decode cX7_mark 13 = .ok (.iconst 0, 1) := by decide +kernel
theorem dX7_mark_14 : decode cX7_mark 14 = .ok (.invokestatic 49, 3) := by decide +kernel
theorem dX7_mark_17 : decode cX7_mark 17 = .ok (.istore 5, 2) := by decide +kernel
theorem dX7_mark_19 : decode cX7_mark 19 = .ok (.iload 5, 2) := by decide +kernel
theorem dX7_mark_21 : decode cX7_mark 21 = .ok (.iload 4, 2) := by decide +kernel
theorem dX7_mark_23 : decode cX7_mark 23 = .ok (.if_icmp .ge 17, 3) := by decide +kernel
theorem dX7_mark_26 : decode cX7_mark 26 = .ok (.aload_n 0, 1) := by decide +kernel
theorem dX7_mark_27 : decode cX7_mark 27 = .ok (.getfield 9, 3) := by decide +kernel
theorem dX7_mark_30 : decode cX7_mark 30 = .ok (.iload 5, 2) := by decide +kernel
theorem dX7_mark_32 : decode cX7_mark 32 = .ok (.iload_n 3, 1) := by decide +kernel
theorem dX7_mark_33 : decode cX7_mark 33 = .ok (.iastore, 1) := by decide +kernel
theorem dX7_mark_34 : decode cX7_mark 34 = .ok (.iinc 5 1, 3) := by decide +kernel
theorem dX7_mark_37 : decode cX7_mark 37 = .ok (.goto (-18), 3) := by decide +kernel
theorem dX7_mark_40 : decode cX7_mark 40 = .ok (.return_, 1) := by decide +kernel
theorem dX7_slotOf_0 : decode cX7_slotOf 0 = .ok (.iconst 0, 1) := by decide +kernel
theorem dX7_slotOf_1 : decode cX7_slotOf 1 = .ok (.istore_n 2, 1) := by decide +kernel
theorem dX7_slotOf_2 : decode cX7_slotOf 2 = .ok (.iload_n 2, 1) := by decide +kernel
theorem dX7_slotOf_3 : decode cX7_slotOf 3 = .ok (.aload_n 0, 1) := by decide +kernel
theorem dX7_slotOf_4 : decode cX7_slotOf 4 = .ok (.getfield 40, 3) := by decide +kernel
theorem dX7_slotOf_7 : decode cX7_slotOf 7 = .ok (.if_icmp .ge 21, 3) := by decide +kernel
theorem dX7_slotOf_10 : decode cX7_slotOf 10 = .ok (.aload_n 0, 1) := by decide +kernel
theorem dX7_slotOf_11 : decode cX7_slotOf 11 = .ok (.getfield 15, 3) := by decide +kernel
theorem dX7_slotOf_14 : decode cX7_slotOf 14 = .ok (.iload_n 2, 1) := by decide +kernel
theorem dX7_slotOf_15 : decode cX7_slotOf 15 = .ok (.iaload, 1) := by decide +kernel
theorem dX7_slotOf_16 : decode cX7_slotOf 16 = .ok (.iload_n 1, 1) := by decide +kernel
theorem dX7_slotOf_17 : decode cX7_slotOf 17 = .ok (.if_icmp .ne 5, 3) := by decide +kernel
theorem dX7_slotOf_20 : decode cX7_slotOf 20 = .ok (.iload_n 2, 1) := by decide +kernel
theorem dX7_slotOf_21 : decode cX7_slotOf 21 = .ok (.ireturn, 1) := by decide +kernel
theorem dX7_slotOf_22 : decode cX7_slotOf 22 = .ok (.iinc 2 1, 3) := by decide +kernel
theorem dX7_slotOf_25 : decode cX7_slotOf 25 = .ok (.goto (-23), 3) := by decide +kernel
theorem dX7_slotOf_28 : decode cX7_slotOf 28 = .ok (.iconst (-1), 1) := by decide +kernel
theorem dX7_slotOf_29 : decode cX7_slotOf 29 = .ok (.ireturn, 1) := by decide +kernel
theorem dX7_placeOf_0 : decode cX7_placeOf 0 = .ok (.iload_n 1, 1) := by decide +kernel
theorem dX7_placeOf_1 : decode cX7_placeOf 1 = .ok (.ifCond .lt 11, 3) := by decide +kernel
theorem dX7_placeOf_4 : decode cX7_placeOf 4 = .ok (.iload_n 1, 1) := by decide +kernel
theorem dX7_placeOf_5 : decode cX7_placeOf 5 = .ok (.aload_n 0, 1) := by decide +kernel
theorem dX7_placeOf_6 : decode cX7_placeOf 6 = .ok (.getfield 40, 3) := by decide +kernel
theorem dX7_placeOf_9 : decode cX7_placeOf 9 = .ok (.if_icmp .lt 7, 3) := by decide +kernel
theorem dX7_placeOf_12 : decode cX7_placeOf 12 = .ok (.iconst (-1), 1) := by decide +kernel
theorem dX7_placeOf_13 : decode cX7_placeOf 13 = .ok (.goto 9, 3) := by decide +kernel
theorem dX7_placeOf_16 : decode cX7_placeOf 16 = .ok (.aload_n 0, 1) := by decide +kernel
theorem dX7_placeOf_17 : decode cX7_placeOf 17 = .ok (.getfield 18, 3) := by decide +kernel
theorem dX7_placeOf_20 : decode cX7_placeOf 20 = .ok (.iload_n 1, 1) := by decide +kernel
theorem dX7_placeOf_21 : decode cX7_placeOf 21 = .ok (.iaload, 1) := by decide +kernel
theorem dX7_placeOf_22 : decode cX7_placeOf 22 = .ok (.ireturn, 1) := by decide +kernel
theorem dX7_spanOf_0 : decode cX7_spanOf 0 = .ok (.iload_n 1, 1) := by decide +kernel
theorem dX7_spanOf_1 : decode cX7_spanOf 1 = .ok (.ifCond .lt 11, 3) := by decide +kernel
theorem dX7_spanOf_4 : decode cX7_spanOf 4 = .ok (.iload_n 1, 1) := by decide +kernel
theorem dX7_spanOf_5 : decode cX7_spanOf 5 = .ok (.aload_n 0, 1) := by decide +kernel
theorem dX7_spanOf_6 : decode cX7_spanOf 6 = .ok (.getfield 40, 3) := by decide +kernel
theorem dX7_spanOf_9 : decode cX7_spanOf 9 = .ok (.if_icmp .lt 7, 3) := by decide +kernel
theorem dX7_spanOf_12 : decode cX7_spanOf 12 = .ok (.iconst 0, 1) := by decide +kernel
theorem dX7_spanOf_13 : decode cX7_spanOf 13 = .ok (.goto 9, 3) := by decide +kernel
theorem dX7_spanOf_16 : decode cX7_spanOf 16 = .ok (.aload_n 0, 1) := by decide +kernel
theorem dX7_spanOf_17 : decode cX7_spanOf 17 = .ok (.getfield 21, 3) := by decide +kernel
theorem dX7_spanOf_20 : decode cX7_spanOf 20 = .ok (.iload_n 1, 1) := by decide +kernel
theorem dX7_spanOf_21 : decode cX7_spanOf 21 = .ok (.iaload, 1) := by decide +kernel
theorem dX7_spanOf_22 : decode cX7_spanOf 22 = .ok (.ireturn, 1) := by decide +kernel
theorem dX7_askedOf_0 : decode cX7_askedOf 0 = .ok (.iload_n 1, 1) := by decide +kernel
theorem dX7_askedOf_1 : decode cX7_askedOf 1 = .ok (.ifCond .lt 11, 3) := by decide +kernel
theorem dX7_askedOf_4 : decode cX7_askedOf 4 = .ok (.iload_n 1, 1) := by decide +kernel
theorem dX7_askedOf_5 : decode cX7_askedOf 5 = .ok (.aload_n 0, 1) := by decide +kernel
theorem dX7_askedOf_6 : decode cX7_askedOf 6 = .ok (.getfield 40, 3) := by decide +kernel
theorem dX7_askedOf_9 : decode cX7_askedOf 9 = .ok (.if_icmp .lt 7, 3) := by decide +kernel
theorem dX7_askedOf_12 : decode cX7_askedOf 12 = .ok (.iconst 0, 1) := by decide +kernel
theorem dX7_askedOf_13 : decode cX7_askedOf 13 = .ok (.goto 9, 3) := by decide +kernel
theorem dX7_askedOf_16 : decode cX7_askedOf 16 = .ok (.aload_n 0, 1) := by decide +kernel
theorem dX7_askedOf_17 : decode cX7_askedOf 17 = .ok (.getfield 24, 3) := by decide +kernel
theorem dX7_askedOf_20 : decode cX7_askedOf 20 = .ok (.iload_n 1, 1) := by decide +kernel
theorem dX7_askedOf_21 : decode cX7_askedOf 21 = .ok (.iaload, 1) := by decide +kernel
theorem dX7_askedOf_22 : decode cX7_askedOf 22 = .ok (.ireturn, 1) := by decide +kernel
theorem dX7_blockAt_0 : decode cX7_blockAt 0 = .ok (.iload_n 1, 1) := by decide +kernel
theorem dX7_blockAt_1 : decode cX7_blockAt 1 = .ok (.ifCond .lt 11, 3) := by decide +kernel
theorem dX7_blockAt_4 : decode cX7_blockAt 4 = .ok (.iload_n 1, 1) := by decide +kernel
theorem dX7_blockAt_5 : decode cX7_blockAt 5 = .ok (.aload_n 0, 1) := by decide +kernel
theorem dX7_blockAt_6 : decode cX7_blockAt 6 = .ok (.getfield 36, 3) := by decide +kernel
theorem dX7_blockAt_9 : decode cX7_blockAt 9 = .ok (.if_icmp .lt 7, 3) := by decide +kernel
theorem dX7_blockAt_12 : decode cX7_blockAt 12 = .ok (.iconst (-1), 1) := by decide +kernel
theorem dX7_blockAt_13 : decode cX7_blockAt 13 = .ok (.goto 13, 3) := by decide +kernel
theorem dX7_blockAt_16 : decode cX7_blockAt 16 = .ok (.aload_n 0, 1) := by decide +kernel
theorem dX7_blockAt_17 : decode cX7_blockAt 17 = .ok (.getfield 9, 3) := by decide +kernel
theorem dX7_blockAt_20 : decode cX7_blockAt 20 = .ok (.iload_n 1, 1) := by decide +kernel
theorem dX7_blockAt_21 : decode cX7_blockAt 21 = .ok (.iaload, 1) := by decide +kernel
theorem dX7_blockAt_22 : decode cX7_blockAt 22 = .ok (.iconst (-1), 1) := by decide +kernel
theorem dX7_blockAt_23 : decode cX7_blockAt 23 = .ok (.invokestatic 49, 3) := by decide +kernel
theorem dX7_blockAt_26 : decode cX7_blockAt 26 = .ok (.ireturn, 1) := by decide +kernel
theorem dX7_isFree_0 : decode cX7_isFree 0 = .ok (.iload_n 1, 1) := by decide +kernel
theorem dX7_isFree_1 : decode cX7_isFree 1 = .ok (.ifCond .lt 25, 3) := by decide +kernel
theorem dX7_isFree_4 : decode cX7_isFree 4 = .ok (.iload_n 1, 1) := by decide +kernel
theorem dX7_isFree_5 : decode cX7_isFree 5 = .ok (.aload_n 0, 1) := by decide +kernel
theorem dX7_isFree_6 : decode cX7_isFree 6 = .ok (.getfield 36, 3) := by decide +kernel
theorem dX7_isFree_9 : decode cX7_isFree 9 = .ok (.if_icmp .ge 17, 3) := by decide +kernel
theorem dX7_isFree_12 : decode cX7_isFree 12 = .ok (.aload_n 0, 1) := by decide +kernel
theorem dX7_isFree_13 : decode cX7_isFree 13 = .ok (.getfield 9, 3) := by decide +kernel
theorem dX7_isFree_16 : decode cX7_isFree 16 = .ok (.iload_n 1, 1) := by decide +kernel
theorem dX7_isFree_17 : decode cX7_isFree 17 = .ok (.iaload, 1) := by decide +kernel
theorem dX7_isFree_18 : decode cX7_isFree 18 = .ok (.iconst (-1), 1) := by decide +kernel
theorem dX7_isFree_19 : decode cX7_isFree 19 = .ok (.if_icmp .ne 7, 3) := by decide +kernel
theorem dX7_isFree_22 : decode cX7_isFree 22 = .ok (.iconst 1, 1) := by decide +kernel
theorem dX7_isFree_23 : decode cX7_isFree 23 = .ok (.goto 4, 3) := by decide +kernel
theorem dX7_isFree_26 : decode cX7_isFree 26 = .ok (.iconst 0, 1) := by decide +kernel
theorem dX7_isFree_27 : decode cX7_isFree 27 = .ok (.ireturn, 1) := by decide +kernel
theorem dX7_askedTogether_0 : decode cX7_askedTogether 0 = .ok (.iconst 0, 1) := by decide +kernel
theorem dX7_askedTogether_1 : decode cX7_askedTogether 1 = .ok (.istore_n 1, 1) := by decide +kernel
theorem dX7_askedTogether_2 : decode cX7_askedTogether 2 = .ok (.iconst 0, 1) := by decide +kernel
theorem dX7_askedTogether_3 : decode cX7_askedTogether 3 = .ok (.istore_n 2, 1) := by decide +kernel
theorem dX7_askedTogether_4 : decode cX7_askedTogether 4 = .ok (.iload_n 2, 1) := by decide +kernel
theorem dX7_askedTogether_5 : decode cX7_askedTogether 5 = .ok (.aload_n 0, 1) := by decide +kernel
theorem dX7_askedTogether_6 : decode cX7_askedTogether 6 = .ok (.getfield 40, 3) := by decide +kernel
theorem dX7_askedTogether_9 : decode cX7_askedTogether 9 = .ok (.if_icmp .ge 18, 3) := by decide +kernel
theorem dX7_askedTogether_12 : decode cX7_askedTogether 12 = .ok (.iload_n 1, 1) := by decide +kernel
theorem dX7_askedTogether_13 : decode cX7_askedTogether 13 = .ok (.aload_n 0, 1) := by decide +kernel
theorem dX7_askedTogether_14 : decode cX7_askedTogether 14 = .ok (.getfield 24, 3) := by decide +kernel
theorem dX7_askedTogether_17 : decode cX7_askedTogether 17 = .ok (.iload_n 2, 1) := by decide +kernel
theorem dX7_askedTogether_18 : decode cX7_askedTogether 18 = .ok (.iaload, 1) := by decide +kernel
theorem dX7_askedTogether_19 : decode cX7_askedTogether 19 = .ok (.iadd, 1) := by decide +kernel
theorem dX7_askedTogether_20 : decode cX7_askedTogether 20 = .ok (.istore_n 1, 1) := by decide +kernel
theorem dX7_askedTogether_21 : decode cX7_askedTogether 21 = .ok (.iinc 2 1, 3) := by decide +kernel
theorem dX7_askedTogether_24 : decode cX7_askedTogether 24 = .ok (.goto (-20), 3) := by decide +kernel
theorem dX7_askedTogether_27 : decode cX7_askedTogether 27 = .ok (.iload_n 1, 1) := by decide +kernel
theorem dX7_askedTogether_28 : decode cX7_askedTogether 28 = .ok (.ireturn, 1) := by decide +kernel
theorem dX7_spansTogether_0 : decode cX7_spansTogether 0 = .ok (.iconst 0, 1) := by decide +kernel
theorem dX7_spansTogether_1 : decode cX7_spansTogether 1 = .ok (.istore_n 1, 1) := by decide +kernel
theorem dX7_spansTogether_2 : decode cX7_spansTogether 2 = .ok (.iconst 0, 1) := by decide +kernel
theorem dX7_spansTogether_3 : decode cX7_spansTogether 3 = .ok (.istore_n 2, 1) := by decide +kernel
theorem dX7_spansTogether_4 : decode cX7_spansTogether 4 = .ok (.iload_n 2, 1) := by decide +kernel
theorem dX7_spansTogether_5 : decode cX7_spansTogether 5 = .ok (.aload_n 0, 1) := by decide +kernel
theorem dX7_spansTogether_6 : decode cX7_spansTogether 6 = .ok (.getfield 40, 3) := by decide +kernel
theorem dX7_spansTogether_9 : decode cX7_spansTogether 9 = .ok (.if_icmp .ge 18, 3) := by decide +kernel
theorem dX7_spansTogether_12 : decode cX7_spansTogether 12 = .ok (.iload_n 1, 1) := by decide +kernel
theorem dX7_spansTogether_13 : decode cX7_spansTogether 13 = .ok (.aload_n 0, 1) := by decide +kernel
theorem dX7_spansTogether_14 : decode cX7_spansTogether 14 = .ok (.getfield 21, 3) := by decide +kernel
theorem dX7_spansTogether_17 : decode cX7_spansTogether 17 = .ok (.iload_n 2, 1) := by decide +kernel
theorem dX7_spansTogether_18 : decode cX7_spansTogether 18 = .ok (.iaload, 1) := by decide +kernel
theorem dX7_spansTogether_19 : decode cX7_spansTogether 19 = .ok (.iadd, 1) := by decide +kernel
theorem dX7_spansTogether_20 : decode cX7_spansTogether 20 = .ok (.istore_n 1, 1) := by decide +kernel
theorem dX7_spansTogether_21 : decode cX7_spansTogether 21 = .ok (.iinc 2 1, 3) := by decide +kernel
theorem dX7_spansTogether_24 : decode cX7_spansTogether 24 = .ok (.goto (-20), 3) := by decide +kernel
theorem dX7_spansTogether_27 : decode cX7_spansTogether 27 = .ok (.iload_n 1, 1) := by decide +kernel
theorem dX7_spansTogether_28 : decode cX7_spansTogether 28 = .ok (.ireturn, 1) := by decide +kernel
set_option maxRecDepth 20000 in
theorem ggX7_listRuns_X10_clear : GoodIn wsX7_listRuns wsX10_clear := by first | exact goodIn_sub (show zy_S _ wsX7_listRuns from (zy_c (zy_t (zy_l (zy_l (zy_t (zy_t (zy_t (zy_t (zy_t (zy_t zy_h))))))))) (zy_a (zy_c (zy_t (zy_l (zy_l (zy_t (zy_t (zy_t (zy_t (zy_t (zy_t (zy_t zy_h)))))))))) zy_n) (zy_p (fun _ h => (zy_t (zy_r h))))))) (by decide +kernel) | exact goodIn_r _ [7, 8, 31, 32, 33, 34] (by decide +kernel) (by decide +kernel)
set_option maxRecDepth 20000 in
theorem gX7_listRuns_X10_clear : GoodIn wsX7_listRuns (wsV RX7 68 RX10 yX10_clear wsX10_clear) := by first | exact goodIn_app (goodIn_sub (show zy_S _ wsX7_listRuns from (zy_c (zy_t (zy_l (zy_l (zy_t (zy_t zy_h))))) (zy_c (zy_t (zy_l (zy_l (zy_t (zy_t (zy_t zy_h)))))) (zy_c (zy_t (zy_l (zy_l (zy_t (zy_t (zy_t (zy_t zy_h))))))) (zy_c (zy_t (zy_l (zy_l (zy_t (zy_t (zy_t (zy_t (zy_t zy_h)))))))) zy_n))))) (by decide +kernel)) ggX7_listRuns_X10_clear | exact goodIn_app (goodIn_of _ (by decide +kernel)) ggX7_listRuns_X10_clear
set_option maxRecDepth 20000 in
theorem ggX7_listRuns_X7_isFree : GoodIn wsX7_listRuns wsX7_isFree := by first | exact goodIn_sub (show zy_S _ wsX7_listRuns from (zy_c (zy_t (zy_l (zy_l (zy_t (zy_t (zy_t (zy_t (zy_t (zy_t (zy_t (zy_t (zy_t (zy_t (zy_t (zy_t zy_h))))))))))))))) (zy_a (zy_c (zy_t (zy_l (zy_l (zy_t zy_h)))) (zy_c (zy_t (zy_l (zy_l (zy_t (zy_t (zy_t (zy_t (zy_t (zy_t (zy_t (zy_t (zy_t (zy_t (zy_t (zy_t (zy_t zy_h)))))))))))))))) zy_n)) (zy_p (fun _ h => (zy_t (zy_l (zy_r h)))))))) (by decide +kernel) | exact goodIn_r _ [13, 2, 14, 21, 22, 23, 24, 25, 26, 27, 28, 29, 30] (by decide +kernel) (by decide +kernel)
set_option maxRecDepth 20000 in
theorem gX7_listRuns_X7_isFree : GoodIn wsX7_listRuns (wsV RX7 71 RX7 yX7_isFree wsX7_isFree) := by first | exact goodIn_app (goodIn_sub (show zy_S _ wsX7_listRuns from (zy_c (zy_t (zy_l (zy_l (zy_t (zy_t (zy_t (zy_t (zy_t (zy_t (zy_t (zy_t zy_h))))))))))) (zy_c (zy_t (zy_l (zy_l (zy_t (zy_t (zy_t (zy_t (zy_t (zy_t (zy_t (zy_t (zy_t zy_h)))))))))))) (zy_c (zy_t (zy_l (zy_l (zy_t (zy_t (zy_t (zy_t (zy_t (zy_t (zy_t (zy_t (zy_t (zy_t zy_h))))))))))))) (zy_c (zy_t (zy_l (zy_l (zy_t (zy_t (zy_t (zy_t (zy_t (zy_t (zy_t (zy_t (zy_t (zy_t (zy_t zy_h)))))))))))))) zy_n))))) (by decide +kernel)) ggX7_listRuns_X7_isFree | exact goodIn_app (goodIn_of _ (by decide +kernel)) ggX7_listRuns_X7_isFree
set_option maxRecDepth 20000 in
theorem ggX7_listRuns_X10_add : GoodIn wsX7_listRuns wsX10_add := by first | exact goodIn_sub (show zy_S _ wsX7_listRuns from (zy_c (zy_t (zy_l (zy_l (zy_t (zy_t (zy_t (zy_t (zy_t (zy_t (zy_t (zy_t (zy_t (zy_t (zy_t (zy_t (zy_t (zy_t (zy_t (zy_t (zy_t zy_h)))))))))))))))))))) (zy_a (zy_c (zy_t (zy_l (zy_l (zy_t (zy_t (zy_t (zy_t (zy_t (zy_t (zy_t zy_h)))))))))) (zy_c (zy_t (zy_l (zy_l (zy_t (zy_t (zy_t (zy_t (zy_t (zy_t (zy_t (zy_t (zy_t (zy_t (zy_t (zy_t (zy_t (zy_t (zy_t (zy_t (zy_t (zy_t zy_h))))))))))))))))))))) (zy_c (zy_t (zy_l (zy_l (zy_t (zy_t (zy_t (zy_t (zy_t (zy_t (zy_t (zy_t (zy_t (zy_t (zy_t (zy_t (zy_t (zy_t (zy_t (zy_t (zy_t (zy_t (zy_t zy_h)))))))))))))))))))))) zy_n))) (zy_p (fun _ h => (zy_t (zy_r h))))))) (by decide +kernel) | exact goodIn_r _ [18, 8, 19, 20, 31, 32, 33, 34] (by decide +kernel) (by decide +kernel)
set_option maxRecDepth 20000 in
theorem gX7_listRuns_X10_add : GoodIn wsX7_listRuns (wsV RX7 75 RX10 yX10_add wsX10_add) := by first | exact goodIn_app (goodIn_sub (show zy_S _ wsX7_listRuns from (zy_c (zy_t (zy_l (zy_l (zy_t (zy_t (zy_t (zy_t (zy_t (zy_t (zy_t (zy_t (zy_t (zy_t (zy_t (zy_t (zy_t (zy_t zy_h))))))))))))))))) (zy_c (zy_t (zy_l (zy_l (zy_t (zy_t (zy_t (zy_t (zy_t (zy_t (zy_t (zy_t (zy_t (zy_t (zy_t (zy_t (zy_t (zy_t (zy_t zy_h)))))))))))))))))) (zy_c (zy_t (zy_l (zy_l (zy_t (zy_t (zy_t (zy_t (zy_t (zy_t (zy_t (zy_t (zy_t (zy_t (zy_t (zy_t (zy_t (zy_t (zy_t (zy_t zy_h))))))))))))))))))) (zy_c (zy_t (zy_l (zy_l (zy_t (zy_t (zy_t (zy_t (zy_t zy_h)))))))) zy_n))))) (by decide +kernel)) ggX7_listRuns_X10_add | exact goodIn_app (goodIn_of _ (by decide +kernel)) ggX7_listRuns_X10_add
theorem dX7_listRuns_0 : decode cX7_listRuns 0 = .ok (.aload_n 0, 1) := by decide +kernel
theorem dX7_listRuns_1 : decode cX7_listRuns 1 = .ok (.getfield 32, 3) := by decide +kernel
theorem dX7_listRuns_4 : decode cX7_listRuns 4 = .ok (.invokevirtual 68, 3) := by decide +kernel
theorem dX7_listRuns_7 : decode cX7_listRuns 7 = .ok (.iconst 0, 1) := by decide +kernel
theorem dX7_listRuns_8 : decode cX7_listRuns 8 = .ok (.istore_n 1, 1) := by decide +kernel
theorem dX7_listRuns_9 : decode cX7_listRuns 9 = .ok (.iconst 0, 1) := by decide +kernel
theorem dX7_listRuns_10 : decode cX7_listRuns 10 = .ok (.istore_n 2, 1) := by decide +kernel
theorem dX7_listRuns_11 : decode cX7_listRuns 11 = .ok (.iload_n 2, 1) := by decide +kernel
theorem dX7_listRuns_12 : decode cX7_listRuns 12 = .ok (.aload_n 0, 1) := by decide +kernel
theorem dX7_listRuns_13 : decode cX7_listRuns 13 = .ok (.getfield 36, 3) := by decide +kernel
theorem dX7_listRuns_16 : decode cX7_listRuns 16 = .ok (.if_icmp .gt 37, 3) := by decide +kernel
theorem dX7_listRuns_19 : decode cX7_listRuns 19 = .ok (.aload_n 0, 1) := by decide +kernel
theorem dX7_listRuns_20 : decode cX7_listRuns 20 = .ok (.iload_n 2, 1) := by decide +kernel
theorem dX7_listRuns_21 : decode cX7_listRuns 21 = .ok (.invokevirtual 71, 3) := by decide +kernel
theorem dX7_listRuns_24 : decode cX7_listRuns 24 = .ok (.ifCond .ne 23, 3) := by decide +kernel
theorem dX7_listRuns_27 : decode cX7_listRuns 27 = .ok (.iload_n 2, 1) := by decide +kernel
theorem dX7_listRuns_28 : decode cX7_listRuns 28 = .ok (.iload_n 1, 1) := by decide +kernel
theorem dX7_listRuns_29 : decode cX7_listRuns 29 = .ok (.if_icmp .le 14, 3) := by decide +kernel
theorem dX7_listRuns_32 : decode cX7_listRuns 32 = .ok (.aload_n 0, 1) := by decide +kernel
theorem dX7_listRuns_33 : decode cX7_listRuns 33 = .ok (.getfield 32, 3) := by decide +kernel
theorem dX7_listRuns_36 : decode cX7_listRuns 36 = .ok (.iload_n 1, 1) := by decide +kernel
theorem dX7_listRuns_37 : decode cX7_listRuns 37 = .ok (.iload_n 2, 1) := by decide +kernel
theorem dX7_listRuns_38 : decode cX7_listRuns 38 = .ok (.iload_n 1, 1) := by decide +kernel
theorem dX7_listRuns_39 : decode cX7_listRuns 39 = .ok (.isub, 1) := by decide +kernel
theorem dX7_listRuns_40 : decode cX7_listRuns 40 = .ok (.invokevirtual 75, 3) := by decide +kernel
theorem dX7_listRuns_43 : decode cX7_listRuns 43 = .ok (.iload_n 2, 1) := by decide +kernel
theorem dX7_listRuns_44 : decode cX7_listRuns 44 = .ok (.iconst 1, 1) := by decide +kernel
theorem dX7_listRuns_45 : decode cX7_listRuns 45 = .ok (.iadd, 1) := by decide +kernel
theorem dX7_listRuns_46 : decode cX7_listRuns 46 = .ok (.istore_n 1, 1) := by decide +kernel
theorem dX7_listRuns_47 : decode cX7_listRuns 47 = .ok (.iinc 2 1, 3) := by decide +kernel
theorem dX7_listRuns_50 : decode cX7_listRuns 50 = .ok (.goto (-39), 3) := by decide +kernel
theorem dX7_listRuns_53 : decode cX7_listRuns 53 = .ok (.aload_n 0, 1) := by decide +kernel
theorem dX7_listRuns_54 : decode cX7_listRuns 54 = .ok (.getfield 32, 3) := by decide +kernel
theorem dX7_listRuns_57 : decode cX7_listRuns 57 = .ok (.areturn, 1) := by decide +kernel
set_option maxRecDepth 20000 in
theorem ggX8_init_X10_init : GoodIn wsX8_init wsX10_init := by first | exact goodIn_sub (show zy_S _ wsX8_init from (zy_c (zy_t (zy_l (zy_l (zy_l (zy_t (zy_t (zy_t (zy_t (zy_t (zy_t (zy_t (zy_t (zy_t (zy_t (zy_t (zy_t (zy_t (zy_t (zy_t (zy_t (zy_t (zy_t (zy_t zy_h))))))))))))))))))))))) (zy_a (zy_c (zy_t (zy_l (zy_l (zy_l (zy_t (zy_t (zy_t (zy_t (zy_t (zy_t (zy_t (zy_t (zy_t (zy_t (zy_t (zy_t (zy_t (zy_t (zy_t (zy_t (zy_t (zy_t (zy_t (zy_t zy_h)))))))))))))))))))))))) (zy_c (zy_t (zy_l (zy_l (zy_l (zy_t zy_h))))) (zy_c (zy_t (zy_l (zy_l (zy_l (zy_t (zy_t zy_h)))))) (zy_c (zy_t (zy_l (zy_l (zy_l (zy_t (zy_t (zy_t (zy_t (zy_t (zy_t (zy_t (zy_t (zy_t (zy_t (zy_t (zy_t (zy_t (zy_t (zy_t (zy_t (zy_t (zy_t (zy_t (zy_t (zy_t zy_h))))))))))))))))))))))))) (zy_c (zy_t (zy_l (zy_l (zy_l (zy_t (zy_t (zy_t (zy_t (zy_t (zy_t (zy_t (zy_t (zy_t (zy_t (zy_t (zy_t (zy_t (zy_t (zy_t (zy_t (zy_t (zy_t (zy_t (zy_t (zy_t (zy_t zy_h)))))))))))))))))))))))))) (zy_c (zy_t (zy_l (zy_l (zy_l (zy_t (zy_t (zy_t (zy_t (zy_t (zy_t (zy_t (zy_t (zy_t (zy_t (zy_t (zy_t (zy_t (zy_t (zy_t (zy_t (zy_t (zy_t (zy_t (zy_t (zy_t (zy_t (zy_t zy_h))))))))))))))))))))))))))) (zy_c (zy_t (zy_l (zy_l (zy_r zy_h)))) (zy_c (zy_t (zy_l (zy_l (zy_r (zy_t zy_h))))) (zy_c (zy_t (zy_l (zy_l (zy_r (zy_t (zy_t zy_h)))))) (zy_c (zy_t (zy_l (zy_l (zy_l (zy_t (zy_t (zy_t zy_h))))))) (zy_c (zy_t (zy_l (zy_l (zy_r (zy_t (zy_t (zy_t zy_h))))))) (zy_c (zy_t (zy_l (zy_l (zy_r (zy_t (zy_t (zy_t (zy_t zy_h)))))))) zy_n)))))))))))) (zy_p (fun _ h => (zy_t (zy_r h))))))) (by decide +kernel) | exact goodIn_r _ [20, 21, 2, 3, 22, 23, 24, 25, 26, 27, 4, 28, 29, 39, 40, 41, 42] (by decide +kernel) (by decide +kernel)
set_option maxRecDepth 20000 in
theorem gX8_init_X10_init : GoodIn wsX8_init (wsX10_init) := ggX8_init_X10_init
theorem dX8_init_0 : decode cX8_init 0 = .ok (.aload_n 0, 1) := by decide +kernel
theorem dX8_init_1 : decode cX8_init 1 = .ok (.invokespecial 5, 3) := by decide +kernel
theorem dX8_init_4 : decode cX8_init 4 = .ok (.aload_n 0, 1) := by decide +kernel
theorem dX8_init_5 : decode cX8_init 5 = .ok (.sipush 20000, 3) := by decide +kernel
theorem dX8_init_8 : decode cX8_init 8 = .ok (.newarray .int, 2) := by decide +kernel
theorem dX8_init_10 : decode cX8_init 10 = .ok (.putfield 11, 3) := by decide +kernel
theorem dX8_init_13 : decode cX8_init 13 = .ok (.aload_n 0, 1) := by decide +kernel
theorem dX8_init_14 : decode cX8_init 14 = .ok (.ldc 15, 2) := by decide +kernel
theorem dX8_init_16 : decode cX8_init 16 = .ok (.newarray .int, 2) := by decide +kernel
theorem dX8_init_18 : decode cX8_init 18 = .ok (.putfield 16, 3) := by decide +kernel
theorem dX8_init_21 : decode cX8_init 21 = .ok (.aload_n 0, 1) := by decide +kernel
theorem dX8_init_22 : decode cX8_init 22 = .ok (.new 19, 3) := by decide +kernel
theorem dX8_init_25 : decode cX8_init 25 = .ok (.dup, 1) := by decide +kernel
theorem dX8_init_26 : decode cX8_init 26 = .ok (.bipush 14, 2) := by decide +kernel
theorem dX8_init_28 : decode cX8_init 28 = .ok (.invokespecial 21, 3) := by decide +kernel
theorem dX8_init_31 : decode cX8_init 31 = .ok (.putfield 24, 3) := by decide +kernel
theorem dX8_init_34 : decode cX8_init 34 = .ok (.aload_n 0, 1) := by decide +kernel
theorem dX8_init_35 : decode cX8_init 35 = .ok (.iconst 1, 1) := by decide +kernel
theorem dX8_init_36 : decode cX8_init 36 = .ok (.putfield 28, 3) := by decide +kernel
theorem dX8_init_39 : decode cX8_init 39 = .ok (.aload_n 0, 1) := by decide +kernel
theorem dX8_init_40 : decode cX8_init 40 = .ok (.iconst 0, 1) := by decide +kernel
theorem dX8_init_41 : decode cX8_init 41 = .ok (.putfield 32, 3) := by decide +kernel
theorem dX8_init_44 : decode cX8_init 44 = .ok (.aload_n 0, 1) := by decide +kernel
theorem dX8_init_45 : decode cX8_init 45 = .ok (.iconst 0, 1) := by decide +kernel
theorem dX8_init_46 : decode cX8_init 46 = .ok (.putfield 35, 3) := by decide +kernel
theorem dX8_init_49 : decode cX8_init 49 = .ok (.aload_n 0, 1) := by decide +kernel
theorem dX8_init_50 : decode cX8_init 50 = .ok (.iconst 0, 1) := by decide +kernel
theorem dX8_init_51 : decode cX8_init 51 = .ok (.putfield 38, 3) := by decide +kernel
theorem dX8_init_54 : decode cX8_init 54 = .ok (.aload_n 0, 1) := by decide +kernel
theorem dX8_init_55 : decode cX8_init 55 = .ok (.iconst 0, 1) := by decide +kernel
theorem dX8_init_56 : decode cX8_init 56 = .ok (.putfield 41, 3) := by decide +kernel
theorem dX8_init_59 : decode cX8_init 59 = .ok (.aload_n 0, 1) := by decide +kernel
theorem dX8_init_60 : decode cX8_init 60 = .ok (.iconst 0, 1) := by decide +kernel
theorem dX8_init_61 : decode cX8_init 61 = .ok (.putfield 44, 3) := by decide +kernel
theorem dX8_init_64 : decode cX8_init 64 = .ok (.return_, 1) := by decide +kernel
theorem dX8_met_0 : decode cX8_met 0 = .ok (.aload_n 0, 1) := by decide +kernel
theorem dX8_met_1 : decode cX8_met 1 = .ok (.getfield 32, 3) := by decide +kernel
theorem dX8_met_4 : decode cX8_met 4 = .ok (.ireturn, 1) := by decide +kernel
set_option maxRecDepth 20000 in
theorem ggX8_leastWords_X8_lookAtAll : GoodIn wsX8_leastWords wsX8_lookAtAll := by first | exact goodIn_sub (show zy_S _ wsX8_leastWords from (zy_c (zy_t (zy_l (zy_l (zy_l (zy_t (zy_t (zy_t (zy_t (zy_t (zy_t (zy_t (zy_t zy_h)))))))))))) (zy_a (zy_a (zy_a (zy_c (zy_t (zy_l (zy_l (zy_l (zy_t (zy_t (zy_t (zy_t (zy_t (zy_t (zy_t (zy_t (zy_t zy_h))))))))))))) (zy_c (zy_t (zy_l (zy_l (zy_l (zy_t (zy_t (zy_t (zy_t (zy_t (zy_t (zy_t (zy_t (zy_t (zy_t zy_h)))))))))))))) (zy_c (zy_t (zy_l (zy_l (zy_l (zy_t (zy_t (zy_t (zy_t (zy_t (zy_t (zy_t (zy_t (zy_t (zy_t (zy_t zy_h))))))))))))))) (zy_c (zy_t (zy_l (zy_l (zy_l (zy_t (zy_t (zy_t (zy_t (zy_t (zy_t (zy_t (zy_t (zy_t (zy_t (zy_t (zy_t zy_h)))))))))))))))) (zy_c (zy_t (zy_l (zy_l (zy_l (zy_t (zy_t (zy_t (zy_t (zy_t (zy_t (zy_t (zy_t (zy_t (zy_t (zy_t (zy_t (zy_t zy_h))))))))))))))))) (zy_c (zy_t (zy_l (zy_l (zy_l (zy_t (zy_t (zy_t (zy_t (zy_t (zy_t (zy_t (zy_t (zy_t (zy_t (zy_t (zy_t (zy_t (zy_t zy_h)))))))))))))))))) (zy_c (zy_t (zy_l (zy_l (zy_l (zy_t (zy_t (zy_t (zy_t (zy_t (zy_t (zy_t zy_h))))))))))) (zy_c (zy_t (zy_l (zy_l (zy_l (zy_t (zy_t (zy_t (zy_t (zy_t (zy_t (zy_t (zy_t (zy_t (zy_t (zy_t (zy_t (zy_t (zy_t (zy_t zy_h))))))))))))))))))) (zy_c (zy_t (zy_l (zy_l (zy_l (zy_t (zy_t (zy_t (zy_t (zy_t (zy_t (zy_t (zy_t (zy_t (zy_t (zy_t (zy_t (zy_t (zy_t (zy_t (zy_t zy_h)))))))))))))))))))) (zy_c (zy_t (zy_l (zy_l (zy_l (zy_t (zy_t (zy_t (zy_t (zy_t (zy_t (zy_t (zy_t (zy_t (zy_t (zy_t (zy_t (zy_t (zy_t (zy_t (zy_t (zy_t zy_h))))))))))))))))))))) (zy_c (zy_t (zy_l (zy_l (zy_l (zy_t (zy_t (zy_t (zy_t (zy_t (zy_t (zy_t (zy_t (zy_t (zy_t (zy_t (zy_t (zy_t (zy_t (zy_t (zy_t (zy_t (zy_t zy_h)))))))))))))))))))))) (zy_c (zy_t (zy_l (zy_l (zy_l (zy_t (zy_t (zy_t (zy_t (zy_t (zy_t (zy_t (zy_t (zy_t (zy_t (zy_t (zy_t (zy_t (zy_t (zy_t (zy_t (zy_t (zy_t (zy_t zy_h))))))))))))))))))))))) (zy_c (zy_t (zy_l (zy_l (zy_l (zy_t (zy_t (zy_t (zy_t (zy_t (zy_t (zy_t (zy_t (zy_t (zy_t (zy_t (zy_t (zy_t (zy_t (zy_t (zy_t (zy_t (zy_t (zy_t (zy_t zy_h)))))))))))))))))))))))) (zy_c (zy_t (zy_l (zy_l (zy_l (zy_t (zy_t (zy_t (zy_t (zy_t (zy_t (zy_t (zy_t (zy_t (zy_t (zy_t (zy_t (zy_t (zy_t (zy_t (zy_t (zy_t (zy_t (zy_t (zy_t (zy_t zy_h))))))))))))))))))))))))) (zy_c (zy_t (zy_l (zy_l (zy_l (zy_t (zy_t (zy_t (zy_t (zy_t (zy_t (zy_t (zy_t (zy_t (zy_t (zy_t (zy_t (zy_t (zy_t (zy_t (zy_t (zy_t (zy_t (zy_t (zy_t (zy_t (zy_t zy_h)))))))))))))))))))))))))) (zy_c (zy_t (zy_l (zy_l (zy_l (zy_t (zy_t (zy_t (zy_t (zy_t (zy_t (zy_t (zy_t (zy_t (zy_t (zy_t (zy_t (zy_t (zy_t (zy_t (zy_t (zy_t (zy_t (zy_t (zy_t (zy_t (zy_t (zy_t zy_h))))))))))))))))))))))))))) (zy_c (zy_t (zy_l (zy_l (zy_r (zy_l zy_h))))) (zy_c (zy_t (zy_l (zy_l (zy_r (zy_l (zy_t zy_h)))))) (zy_c (zy_t (zy_l (zy_l (zy_r (zy_l (zy_t (zy_t zy_h))))))) (zy_c (zy_t (zy_l (zy_l (zy_r (zy_l (zy_t (zy_t (zy_t zy_h)))))))) (zy_c (zy_t (zy_l (zy_l (zy_r (zy_l (zy_t (zy_t (zy_t (zy_t zy_h))))))))) (zy_c (zy_t (zy_l (zy_l (zy_r (zy_l (zy_t (zy_t (zy_t (zy_t (zy_t zy_h)))))))))) (zy_c (zy_t (zy_l (zy_l (zy_r (zy_l (zy_t (zy_t (zy_t (zy_t (zy_t (zy_t zy_h))))))))))) (zy_c (zy_t (zy_l (zy_l (zy_l (zy_t zy_h))))) zy_n)))))))))))))))))))))))) (zy_a (zy_c (zy_t (zy_l (zy_l (zy_l (zy_t (zy_t zy_h)))))) (zy_c (zy_t (zy_l (zy_l (zy_r (zy_l (zy_t (zy_t (zy_t (zy_t (zy_t (zy_t (zy_t zy_h)))))))))))) (zy_c (zy_t (zy_l (zy_l (zy_r (zy_l (zy_t (zy_t (zy_t (zy_t (zy_t (zy_t (zy_t (zy_t zy_h))))))))))))) (zy_c (zy_t (zy_l (zy_l (zy_r (zy_l (zy_t (zy_t (zy_t (zy_t (zy_t (zy_t (zy_t (zy_t (zy_t zy_h)))))))))))))) (zy_c (zy_t (zy_l (zy_l (zy_r (zy_l (zy_t (zy_t (zy_t (zy_t (zy_t (zy_t (zy_t (zy_t (zy_t (zy_t zy_h))))))))))))))) (zy_c (zy_t (zy_l (zy_l (zy_r (zy_l (zy_t (zy_t (zy_t (zy_t (zy_t (zy_t (zy_t (zy_t (zy_t (zy_t (zy_t zy_h)))))))))))))))) (zy_c (zy_t (zy_l (zy_l (zy_l zy_h)))) (zy_c (zy_t (zy_l (zy_l (zy_r (zy_l (zy_t (zy_t (zy_t (zy_t (zy_t (zy_t (zy_t (zy_t (zy_t (zy_t (zy_t (zy_t zy_h))))))))))))))))) (zy_c (zy_t (zy_l (zy_l (zy_r (zy_l (zy_t (zy_t (zy_t (zy_t (zy_t (zy_t (zy_t (zy_t (zy_t (zy_t (zy_t (zy_t (zy_t zy_h)))))))))))))))))) (zy_c (zy_t (zy_l (zy_l (zy_r (zy_l (zy_t (zy_t (zy_t (zy_t (zy_t (zy_t (zy_t (zy_t (zy_t (zy_t (zy_t (zy_t (zy_t (zy_t zy_h))))))))))))))))))) (zy_c (zy_t (zy_l (zy_l (zy_r (zy_l (zy_t (zy_t (zy_t (zy_t (zy_t (zy_t (zy_t (zy_t (zy_t (zy_t (zy_t (zy_t (zy_t (zy_t (zy_t zy_h)))))))))))))))))))) (zy_c (zy_t (zy_l (zy_l (zy_l (zy_t (zy_t (zy_t zy_h))))))) (zy_c (zy_t (zy_l (zy_l (zy_r (zy_l (zy_t (zy_t (zy_t (zy_t (zy_t (zy_t (zy_t (zy_t (zy_t (zy_t (zy_t (zy_t (zy_t (zy_t (zy_t (zy_t zy_h))))))))))))))))))))) (zy_c (zy_t (zy_l (zy_l (zy_r (zy_l (zy_t (zy_t (zy_t (zy_t (zy_t (zy_t (zy_t (zy_t (zy_t (zy_t (zy_t (zy_t (zy_t (zy_t (zy_t (zy_t (zy_t zy_h)))))))))))))))))))))) (zy_c (zy_t (zy_l (zy_l (zy_r (zy_l (zy_t (zy_t (zy_t (zy_t (zy_t (zy_t (zy_t (zy_t (zy_t (zy_t (zy_t (zy_t (zy_t (zy_t (zy_t (zy_t (zy_t (zy_t zy_h))))))))))))))))))))))) (zy_c (zy_t (zy_l (zy_l (zy_r (zy_l (zy_t (zy_t (zy_t (zy_t (zy_t (zy_t (zy_t (zy_t (zy_t (zy_t (zy_t (zy_t (zy_t (zy_t (zy_t (zy_t (zy_t (zy_t (zy_t zy_h)))))))))))))))))))))))) (zy_c (zy_t (zy_l (zy_l (zy_r (zy_l (zy_t (zy_t (zy_t (zy_t (zy_t (zy_t (zy_t (zy_t (zy_t (zy_t (zy_t (zy_t (zy_t (zy_t (zy_t (zy_t (zy_t (zy_t (zy_t (zy_t zy_h))))))))))))))))))))))))) (zy_c (zy_t (zy_l (zy_l (zy_r (zy_l (zy_t (zy_t (zy_t (zy_t (zy_t (zy_t (zy_t (zy_t (zy_t (zy_t (zy_t (zy_t (zy_t (zy_t (zy_t (zy_t (zy_t (zy_t (zy_t (zy_t (zy_t zy_h)))))))))))))))))))))))))) (zy_c (zy_t (zy_l (zy_l (zy_r (zy_l (zy_t (zy_t (zy_t (zy_t (zy_t (zy_t (zy_t (zy_t (zy_t (zy_t (zy_t (zy_t (zy_t (zy_t (zy_t (zy_t (zy_t (zy_t (zy_t (zy_t (zy_t (zy_t zy_h))))))))))))))))))))))))))) (zy_c (zy_t (zy_l (zy_l (zy_r (zy_l (zy_t (zy_t (zy_t (zy_t (zy_t (zy_t (zy_t (zy_t (zy_t (zy_t (zy_t (zy_t (zy_t (zy_t (zy_t (zy_t (zy_t (zy_t (zy_t (zy_t (zy_t (zy_t (zy_t zy_h)))))))))))))))))))))))))))) (zy_c (zy_t (zy_l (zy_l (zy_r (zy_r (zy_l zy_h)))))) (zy_c (zy_t (zy_l (zy_l (zy_r (zy_r (zy_l (zy_t zy_h))))))) (zy_c (zy_t (zy_l (zy_l (zy_r (zy_r (zy_l (zy_t (zy_t zy_h)))))))) (zy_c (zy_t (zy_l (zy_l (zy_r (zy_r (zy_l (zy_t (zy_t (zy_t zy_h))))))))) zy_n)))))))))))))))))))))))) (zy_a (zy_c (zy_t (zy_l (zy_l (zy_r (zy_r (zy_l (zy_t (zy_t (zy_t (zy_t zy_h)))))))))) (zy_c (zy_t (zy_l (zy_l (zy_r (zy_r (zy_l (zy_t (zy_t (zy_t (zy_t (zy_t zy_h))))))))))) (zy_c (zy_t (zy_l (zy_l (zy_r (zy_r (zy_l (zy_t (zy_t (zy_t (zy_t (zy_t (zy_t zy_h)))))))))))) (zy_c (zy_t (zy_l (zy_l (zy_r (zy_r (zy_l (zy_t (zy_t (zy_t (zy_t (zy_t (zy_t (zy_t zy_h))))))))))))) (zy_c (zy_t (zy_l (zy_l (zy_r (zy_r (zy_l (zy_t (zy_t (zy_t (zy_t (zy_t (zy_t (zy_t (zy_t zy_h)))))))))))))) (zy_c (zy_t (zy_l (zy_l (zy_r (zy_r (zy_l (zy_t (zy_t (zy_t (zy_t (zy_t (zy_t (zy_t (zy_t (zy_t zy_h))))))))))))))) (zy_c (zy_t (zy_l (zy_l (zy_r (zy_r (zy_l (zy_t (zy_t (zy_t (zy_t (zy_t (zy_t (zy_t (zy_t (zy_t (zy_t zy_h)))))))))))))))) (zy_c (zy_t (zy_l (zy_l (zy_r (zy_r (zy_l (zy_t (zy_t (zy_t (zy_t (zy_t (zy_t (zy_t (zy_t (zy_t (zy_t (zy_t zy_h))))))))))))))))) (zy_c (zy_t (zy_l (zy_l (zy_r (zy_r (zy_l (zy_t (zy_t (zy_t (zy_t (zy_t (zy_t (zy_t (zy_t (zy_t (zy_t (zy_t (zy_t zy_h)))))))))))))))))) (zy_c (zy_t (zy_l (zy_l (zy_r (zy_r (zy_l (zy_t (zy_t (zy_t (zy_t (zy_t (zy_t (zy_t (zy_t (zy_t (zy_t (zy_t (zy_t (zy_t zy_h))))))))))))))))))) (zy_c (zy_t (zy_l (zy_l (zy_r (zy_r (zy_l (zy_t (zy_t (zy_t (zy_t (zy_t (zy_t (zy_t (zy_t (zy_t (zy_t (zy_t (zy_t (zy_t (zy_t zy_h)))))))))))))))))))) (zy_c (zy_t (zy_l (zy_l (zy_r (zy_r (zy_l (zy_t (zy_t (zy_t (zy_t (zy_t (zy_t (zy_t (zy_t (zy_t (zy_t (zy_t (zy_t (zy_t (zy_t (zy_t zy_h))))))))))))))))))))) (zy_c (zy_t (zy_l (zy_l (zy_r (zy_r (zy_l (zy_t (zy_t (zy_t (zy_t (zy_t (zy_t (zy_t (zy_t (zy_t (zy_t (zy_t (zy_t (zy_t (zy_t (zy_t (zy_t zy_h)))))))))))))))))))))) (zy_c (zy_t (zy_l (zy_l (zy_r (zy_r (zy_l (zy_t (zy_t (zy_t (zy_t (zy_t (zy_t (zy_t (zy_t (zy_t (zy_t (zy_t (zy_t (zy_t (zy_t (zy_t (zy_t (zy_t zy_h))))))))))))))))))))))) (zy_c (zy_t (zy_l (zy_l (zy_r (zy_r (zy_l (zy_t (zy_t (zy_t (zy_t (zy_t (zy_t (zy_t (zy_t (zy_t (zy_t (zy_t (zy_t (zy_t (zy_t (zy_t (zy_t (zy_t (zy_t zy_h)))))))))))))))))))))))) (zy_c (zy_t (zy_l (zy_l (zy_r (zy_r (zy_l (zy_t (zy_t (zy_t (zy_t (zy_t (zy_t (zy_t (zy_t (zy_t (zy_t (zy_t (zy_t (zy_t (zy_t (zy_t (zy_t (zy_t (zy_t (zy_t zy_h))))))))))))))))))))))))) (zy_c (zy_t (zy_l (zy_l (zy_r (zy_r (zy_l (zy_t (zy_t (zy_t (zy_t (zy_t (zy_t (zy_t (zy_t (zy_t (zy_t (zy_t (zy_t (zy_t (zy_t (zy_t (zy_t (zy_t (zy_t (zy_t (zy_t zy_h)))))))))))))))))))))))))) (zy_c (zy_t (zy_l (zy_l (zy_r (zy_r (zy_l (zy_t (zy_t (zy_t (zy_t (zy_t (zy_t (zy_t (zy_t (zy_t (zy_t (zy_t (zy_t (zy_t (zy_t (zy_t (zy_t (zy_t (zy_t (zy_t (zy_t (zy_t zy_h))))))))))))))))))))))))))) (zy_c (zy_t (zy_l (zy_l (zy_r (zy_r (zy_l (zy_t (zy_t (zy_t (zy_t (zy_t (zy_t (zy_t (zy_t (zy_t (zy_t (zy_t (zy_t (zy_t (zy_t (zy_t (zy_t (zy_t (zy_t (zy_t (zy_t (zy_t (zy_t zy_h)))))))))))))))))))))))))))) (zy_c (zy_t (zy_l (zy_l (zy_r (zy_r (zy_l (zy_t (zy_t (zy_t (zy_t (zy_t (zy_t (zy_t (zy_t (zy_t (zy_t (zy_t (zy_t (zy_t (zy_t (zy_t (zy_t (zy_t (zy_t (zy_t (zy_t (zy_t (zy_t (zy_t zy_h))))))))))))))))))))))))))))) (zy_c (zy_t (zy_l (zy_l (zy_r (zy_r (zy_r zy_h)))))) (zy_c (zy_t (zy_l (zy_l (zy_r (zy_r (zy_r (zy_t zy_h))))))) (zy_c (zy_t (zy_l (zy_l (zy_r (zy_r (zy_r (zy_t (zy_t zy_h)))))))) (zy_c (zy_t (zy_l (zy_l (zy_r (zy_r (zy_r (zy_t (zy_t (zy_t zy_h))))))))) zy_n)))))))))))))))))))))))) (zy_c (zy_t (zy_l (zy_l (zy_r (zy_r (zy_r (zy_t (zy_t (zy_t (zy_t zy_h)))))))))) (zy_c (zy_t (zy_l (zy_l (zy_r (zy_r (zy_r (zy_t (zy_t (zy_t (zy_t (zy_t zy_h))))))))))) (zy_c (zy_t (zy_l (zy_l (zy_r (zy_r (zy_r (zy_t (zy_t (zy_t (zy_t (zy_t (zy_t zy_h)))))))))))) (zy_c (zy_t (zy_l (zy_l (zy_r (zy_r (zy_r (zy_t (zy_t (zy_t (zy_t (zy_t (zy_t (zy_t zy_h))))))))))))) (zy_c (zy_t (zy_l (zy_l (zy_r (zy_r (zy_r (zy_t (zy_t (zy_t (zy_t (zy_t (zy_t (zy_t (zy_t zy_h)))))))))))))) (zy_c (zy_t (zy_l (zy_l (zy_r (zy_r (zy_r (zy_t (zy_t (zy_t (zy_t (zy_t (zy_t (zy_t (zy_t (zy_t zy_h))))))))))))))) (zy_c (zy_t (zy_l (zy_l (zy_r (zy_r (zy_r (zy_t (zy_t (zy_t (zy_t (zy_t (zy_t (zy_t (zy_t (zy_t (zy_t zy_h)))))))))))))))) (zy_c (zy_t (zy_l (zy_l (zy_r (zy_r (zy_r (zy_t (zy_t (zy_t (zy_t (zy_t (zy_t (zy_t (zy_t (zy_t (zy_t (zy_t zy_h))))))))))))))))) (zy_c (zy_t (zy_l (zy_l (zy_r (zy_r (zy_r (zy_t (zy_t (zy_t (zy_t (zy_t (zy_t (zy_t (zy_t (zy_t (zy_t (zy_t (zy_t zy_h)))))))))))))))))) (zy_c (zy_t (zy_l (zy_l (zy_r (zy_r (zy_r (zy_t (zy_t (zy_t (zy_t (zy_t (zy_t (zy_t (zy_t (zy_t (zy_t (zy_t (zy_t (zy_t zy_h))))))))))))))))))) (zy_c (zy_t (zy_l (zy_l (zy_r (zy_r (zy_r (zy_t (zy_t (zy_t (zy_t (zy_t (zy_t (zy_t (zy_t (zy_t (zy_t (zy_t (zy_t (zy_t (zy_t zy_h)))))))))))))))))))) (zy_c (zy_t (zy_l (zy_l (zy_r (zy_r (zy_r (zy_t (zy_t (zy_t (zy_t (zy_t (zy_t (zy_t (zy_t (zy_t (zy_t (zy_t (zy_t (zy_t (zy_t (zy_t zy_h))))))))))))))))))))) (zy_c (zy_t (zy_l (zy_l (zy_r (zy_r (zy_r (zy_t (zy_t (zy_t (zy_t (zy_t (zy_t (zy_t (zy_t (zy_t (zy_t (zy_t (zy_t (zy_t (zy_t (zy_t (zy_t zy_h)))))))))))))))))))))) (zy_c (zy_t (zy_l (zy_l (zy_r (zy_r (zy_r (zy_t (zy_t (zy_t (zy_t (zy_t (zy_t (zy_t (zy_t (zy_t (zy_t (zy_t (zy_t (zy_t (zy_t (zy_t (zy_t (zy_t zy_h))))))))))))))))))))))) (zy_c (zy_t (zy_l (zy_l (zy_r (zy_r (zy_r (zy_t (zy_t (zy_t (zy_t (zy_t (zy_t (zy_t (zy_t (zy_t (zy_t (zy_t (zy_t (zy_t (zy_t (zy_t (zy_t (zy_t (zy_t zy_h)))))))))))))))))))))))) (zy_c (zy_t (zy_l (zy_l (zy_r (zy_r (zy_r (zy_t (zy_t (zy_t (zy_t (zy_t (zy_t (zy_t (zy_t (zy_t (zy_t (zy_t (zy_t (zy_t (zy_t (zy_t (zy_t (zy_t (zy_t (zy_t zy_h))))))))))))))))))))))))) (zy_c (zy_t (zy_l (zy_l (zy_r (zy_r (zy_r (zy_t (zy_t (zy_t (zy_t (zy_t (zy_t (zy_t (zy_t (zy_t (zy_t (zy_t (zy_t (zy_t (zy_t (zy_t (zy_t (zy_t (zy_t (zy_t (zy_t zy_h)))))))))))))))))))))))))) (zy_c (zy_t (zy_l (zy_l (zy_r (zy_r (zy_r (zy_t (zy_t (zy_t (zy_t (zy_t (zy_t (zy_t (zy_t (zy_t (zy_t (zy_t (zy_t (zy_t (zy_t (zy_t (zy_t (zy_t (zy_t (zy_t (zy_t (zy_t zy_h))))))))))))))))))))))))))) (zy_c (zy_t (zy_l (zy_l (zy_r (zy_r (zy_r (zy_t (zy_t (zy_t (zy_t (zy_t (zy_t (zy_t (zy_t (zy_t (zy_t (zy_t (zy_t (zy_t (zy_t (zy_t (zy_t (zy_t (zy_t (zy_t (zy_t (zy_t (zy_t zy_h)))))))))))))))))))))))))))) zy_n)))))))))))))))))))))) (zy_p (fun _ h => (zy_t (zy_l (zy_r h)))))) (zy_p (fun _ h => (zy_t (zy_r h))))))) (by decide +kernel) | exact goodIn_r _ [9, 10, 11, 12, 13, 14, 15, 8, 16, 17, 18, 19, 20, 21, 22, 23, 24, 25, 26, 27, 28, 29, 30, 31, 2, 3, 32, 33, 34, 35, 36, 1, 37, 38, 39, 40, 4, 41, 42, 43, 44, 45, 46, 47, 48, 49, 50, 51, 52, 53, 54, 55, 56, 57, 58, 59, 60, 61, 62, 63, 64, 65, 66, 67, 68, 69, 70, 71, 72, 73, 74, 75, 76, 77, 78, 79, 80, 81, 82, 83, 84, 85, 86, 87, 88, 89, 90, 91, 92, 93, 94, 95, 96, 97, 98, 99, 100, 101, 102, 103, 104, 105, 106, 107, 108] (by decide +kernel) (by decide +kernel)
set_option maxRecDepth 20000 in
theorem gX8_leastWords_X8_lookAtAll : GoodIn wsX8_leastWords (wsV RX8 47 RX8 yX8_lookAtAll wsX8_lookAtAll) := by first | exact goodIn_app (goodIn_sub (show zy_S _ wsX8_leastWords from (zy_c (zy_t (zy_l (zy_l (zy_l (zy_t (zy_t (zy_t (zy_t zy_h)))))))) (zy_c (zy_t (zy_l (zy_l (zy_l (zy_t (zy_t (zy_t (zy_t (zy_t zy_h))))))))) (zy_c (zy_t (zy_l (zy_l (zy_l (zy_t (zy_t (zy_t (zy_t (zy_t (zy_t zy_h)))))))))) (zy_c (zy_t (zy_l (zy_l (zy_l (zy_t (zy_t (zy_t (zy_t (zy_t (zy_t (zy_t zy_h))))))))))) zy_n))))) (by decide +kernel)) ggX8_leastWords_X8_lookAtAll | exact goodIn_app (goodIn_of _ (by decide +kernel)) ggX8_leastWords_X8_lookAtAll
theorem dX8_leastWords_0 : decode cX8_leastWords 0 = .ok (.aload_n 0, 1) := by decide +kernel
theorem dX8_leastWords_1 : decode cX8_leastWords 1 = .ok (.iload_n 1, 1) := by decide +kernel
theorem dX8_leastWords_2 : decode cX8_leastWords 2 = .ok (.putfield 35, 3) := by decide +kernel
theorem dX8_leastWords_5 : decode cX8_leastWords 5 = .ok (.aload_n 0, 1) := by decide +kernel
theorem dX8_leastWords_6 : decode cX8_leastWords 6 = .ok (.iload_n 2, 1) := by decide +kernel
theorem dX8_leastWords_7 : decode cX8_leastWords 7 = .ok (.putfield 38, 3) := by decide +kernel
theorem dX8_leastWords_10 : decode cX8_leastWords 10 = .ok (.aload_n 0, 1) := by decide +kernel
theorem dX8_leastWords_11 : decode cX8_leastWords 11 = .ok (.iload_n 3, 1) := by decide +kernel
theorem dX8_leastWords_12 : decode cX8_leastWords 12 = .ok (.putfield 41, 3) := by decide +kernel
theorem dX8_leastWords_15 : decode cX8_leastWords 15 = .ok (.iload_n 3, 1) := by decide +kernel
theorem dX8_leastWords_16 : decode cX8_leastWords 16 = .ok (.istore 4, 2) := by decide +kernel
theorem dX8_leastWords_18 : decode cX8_leastWords 18 = .ok (.iload 4, 2) := by decide +kernel
theorem dX8_leastWords_20 : decode cX8_leastWords 20 = .ok (.bipush 14, 2) := by decide +kernel
theorem dX8_leastWords_22 : decode cX8_leastWords 22 = .ok (.if_icmp .gt 38, 3) := by decide +kernel
theorem dX8_leastWords_25 : decode cX8_leastWords 25 = .ok (.aload_n 0, 1) := by decide +kernel
theorem dX8_leastWords_26 : decode cX8_leastWords 26 = .ok (.iload 4, 2) := by decide +kernel
theorem dX8_leastWords_28 : decode cX8_leastWords 28 = .ok (.putfield 44, 3) := by decide +kernel
theorem dX8_leastWords_31 : decode cX8_leastWords 31 = .ok (.aload_n 0, 1) := by decide +kernel
theorem dX8_leastWords_32 : decode cX8_leastWords 32 = .ok (.invokevirtual 47, 3) := by decide +kernel
theorem dX8_leastWords_35 : decode cX8_leastWords 35 = .ok (.istore 5, 2) := by decide +kernel
theorem dX8_leastWords_37 : decode cX8_leastWords 37 = .ok (.iload 5, 2) := by decide +kernel
theorem dX8_leastWords_39 : decode cX8_leastWords 39 = .ok (.ifCond .ne 6, 3) := by decide +kernel
theorem dX8_leastWords_42 : decode cX8_leastWords 42 = .ok (.iload 4, 2) := by decide +kernel
theorem dX8_leastWords_44 : decode cX8_leastWords 44 = .ok (.ireturn, 1) := by decide +kernel
theorem dX8_leastWords_45 : decode cX8_leastWords 45 = .ok (.iload 5, 2) := by decide +kernel
theorem dX8_leastWords_47 : decode cX8_leastWords 47 = .ok (.iconst 2, 1) := by decide +kernel
theorem dX8_leastWords_48 : decode cX8_leastWords 48 = .ok (.if_icmp .ne 6, 3) := by decide +kernel
theorem dX8_leastWords_51 : decode cX8_leastWords 51 = .ok (.bipush (-2), 2) := by decide +kernel
theorem dX8_leastWords_53 : decode cX8_leastWords 53 = .ok (.ireturn, 1) := by decide +kernel
theorem dX8_leastWords_54 : decode cX8_leastWords 54 = .ok (.iinc 4 1, 3) := by decide +kernel
theorem dX8_leastWords_57 : decode cX8_leastWords 57 = .ok (.goto (-39), 3) := by decide +kernel
theorem dX8_leastWords_60 : decode cX8_leastWords 60 = .ok (.iconst (-1), 1) := by decide +kernel
theorem dX8_leastWords_61 : decode cX8_leastWords 61 = .ok (.ireturn, 1) := by decide +kernel
set_option maxRecDepth 20000 in
theorem ggX8_lookAtAll_X8_meet : GoodIn wsX8_lookAtAll wsX8_meet := by first | exact goodIn_sub (show zy_S _ wsX8_lookAtAll from (zy_c (zy_t (zy_l (zy_l (zy_l (zy_t (zy_t (zy_t (zy_t (zy_t (zy_t (zy_t zy_h))))))))))) (zy_a (zy_c (zy_t (zy_l (zy_l (zy_l (zy_t (zy_t (zy_t (zy_t (zy_t (zy_t (zy_t (zy_t zy_h)))))))))))) (zy_c (zy_t (zy_l (zy_l (zy_l (zy_t (zy_t (zy_t (zy_t (zy_t (zy_t (zy_t (zy_t (zy_t zy_h))))))))))))) (zy_c (zy_t (zy_l (zy_l (zy_l (zy_t (zy_t (zy_t (zy_t (zy_t (zy_t (zy_t (zy_t (zy_t (zy_t zy_h)))))))))))))) (zy_c (zy_t (zy_l (zy_l (zy_l zy_h)))) (zy_c (zy_t (zy_l (zy_l (zy_l (zy_t zy_h))))) (zy_c (zy_t (zy_l (zy_l (zy_l (zy_t (zy_t zy_h)))))) (zy_c (zy_t (zy_l (zy_l (zy_l (zy_t (zy_t (zy_t (zy_t (zy_t (zy_t (zy_t (zy_t (zy_t (zy_t (zy_t zy_h))))))))))))))) (zy_c (zy_t (zy_l (zy_l (zy_l (zy_t (zy_t (zy_t (zy_t (zy_t (zy_t (zy_t (zy_t (zy_t (zy_t (zy_t (zy_t zy_h)))))))))))))))) (zy_c (zy_t (zy_l (zy_l (zy_l (zy_t (zy_t (zy_t (zy_t (zy_t (zy_t (zy_t (zy_t (zy_t (zy_t (zy_t (zy_t (zy_t zy_h))))))))))))))))) (zy_c (zy_t (zy_l (zy_l (zy_l (zy_t (zy_t (zy_t (zy_t (zy_t (zy_t zy_h)))))))))) (zy_c (zy_t (zy_l (zy_l (zy_l (zy_t (zy_t (zy_t (zy_t (zy_t (zy_t (zy_t (zy_t (zy_t (zy_t (zy_t (zy_t (zy_t (zy_t zy_h)))))))))))))))))) zy_n))))))))))) (zy_p (fun _ h => (zy_t (zy_l (zy_r h)))))))) (by decide +kernel) | exact goodIn_r _ [8, 9, 10, 11, 1, 2, 3, 12, 13, 14, 7, 15, 92, 93, 94, 95, 96, 97, 98, 99, 100] (by decide +kernel) (by decide +kernel)
set_option maxRecDepth 20000 in
theorem gX8_lookAtAll_X8_meet : GoodIn wsX8_lookAtAll (wsV RX8 51 RX8 yX8_meet wsX8_meet) := by first | exact goodIn_app (goodIn_sub (show zy_S _ wsX8_lookAtAll from (zy_c (zy_t (zy_l (zy_l (zy_l (zy_t (zy_t (zy_t zy_h))))))) (zy_c (zy_t (zy_l (zy_l (zy_l (zy_t (zy_t (zy_t (zy_t zy_h)))))))) (zy_c (zy_t (zy_l (zy_l (zy_l (zy_t (zy_t (zy_t (zy_t (zy_t zy_h))))))))) (zy_c (zy_t (zy_l (zy_l (zy_l (zy_t (zy_t (zy_t (zy_t (zy_t (zy_t zy_h)))))))))) zy_n))))) (by decide +kernel)) ggX8_lookAtAll_X8_meet | exact goodIn_app (goodIn_of _ (by decide +kernel)) ggX8_lookAtAll_X8_meet
set_option maxRecDepth 20000 in
theorem ggX8_lookAtAll_X8_lookAt : GoodIn wsX8_lookAtAll wsX8_lookAt := by first | exact goodIn_sub (show zy_S _ wsX8_lookAtAll from (zy_c (zy_t (zy_l (zy_l (zy_l (zy_t (zy_t (zy_t (zy_t (zy_t (zy_t (zy_t (zy_t (zy_t (zy_t (zy_t (zy_t (zy_t (zy_t (zy_t (zy_t (zy_t (zy_t zy_h)))))))))))))))))))))) (zy_a (zy_a (zy_a (zy_c (zy_t (zy_l (zy_l (zy_l (zy_t (zy_t (zy_t (zy_t (zy_t (zy_t (zy_t (zy_t (zy_t (zy_t (zy_t (zy_t (zy_t (zy_t (zy_t (zy_t (zy_t (zy_t (zy_t zy_h))))))))))))))))))))))) (zy_c (zy_t (zy_l (zy_l (zy_l (zy_t (zy_t (zy_t (zy_t (zy_t (zy_t (zy_t (zy_t (zy_t (zy_t (zy_t (zy_t (zy_t (zy_t (zy_t (zy_t (zy_t (zy_t (zy_t (zy_t zy_h)))))))))))))))))))))))) (zy_c (zy_t (zy_l (zy_l (zy_l (zy_t (zy_t (zy_t (zy_t (zy_t (zy_t (zy_t (zy_t (zy_t (zy_t (zy_t (zy_t (zy_t (zy_t (zy_t (zy_t (zy_t (zy_t (zy_t (zy_t (zy_t zy_h))))))))))))))))))))))))) (zy_c (zy_t (zy_l (zy_l (zy_l (zy_t (zy_t (zy_t (zy_t (zy_t (zy_t zy_h)))))))))) (zy_c (zy_t (zy_l (zy_l (zy_l (zy_t (zy_t (zy_t (zy_t (zy_t (zy_t (zy_t (zy_t (zy_t (zy_t (zy_t (zy_t (zy_t (zy_t (zy_t (zy_t (zy_t (zy_t (zy_t (zy_t (zy_t (zy_t zy_h)))))))))))))))))))))))))) (zy_c (zy_t (zy_l (zy_l (zy_l (zy_t (zy_t (zy_t (zy_t (zy_t (zy_t (zy_t (zy_t (zy_t (zy_t (zy_t (zy_t (zy_t (zy_t (zy_t (zy_t (zy_t (zy_t (zy_t (zy_t (zy_t (zy_t (zy_t zy_h))))))))))))))))))))))))))) (zy_c (zy_t (zy_l (zy_l (zy_r (zy_l zy_h))))) (zy_c (zy_t (zy_l (zy_l (zy_r (zy_l (zy_t zy_h)))))) (zy_c (zy_t (zy_l (zy_l (zy_r (zy_l (zy_t (zy_t zy_h))))))) (zy_c (zy_t (zy_l (zy_l (zy_r (zy_l (zy_t (zy_t (zy_t zy_h)))))))) (zy_c (zy_t (zy_l (zy_l (zy_r (zy_l (zy_t (zy_t (zy_t (zy_t zy_h))))))))) (zy_c (zy_t (zy_l (zy_l (zy_r (zy_l (zy_t (zy_t (zy_t (zy_t (zy_t zy_h)))))))))) (zy_c (zy_t (zy_l (zy_l (zy_r (zy_l (zy_t (zy_t (zy_t (zy_t (zy_t (zy_t zy_h))))))))))) (zy_c (zy_t (zy_l (zy_l (zy_r (zy_l (zy_t (zy_t (zy_t (zy_t (zy_t (zy_t (zy_t zy_h)))))))))))) (zy_c (zy_t (zy_l (zy_l (zy_r (zy_l (zy_t (zy_t (zy_t (zy_t (zy_t (zy_t (zy_t (zy_t zy_h))))))))))))) (zy_c (zy_t (zy_l (zy_l (zy_r (zy_l (zy_t (zy_t (zy_t (zy_t (zy_t (zy_t (zy_t (zy_t (zy_t zy_h)))))))))))))) (zy_c (zy_t (zy_l (zy_l (zy_r (zy_l (zy_t (zy_t (zy_t (zy_t (zy_t (zy_t (zy_t (zy_t (zy_t (zy_t zy_h))))))))))))))) (zy_c (zy_t (zy_l (zy_l (zy_r (zy_l (zy_t (zy_t (zy_t (zy_t (zy_t (zy_t (zy_t (zy_t (zy_t (zy_t (zy_t zy_h)))))))))))))))) (zy_c (zy_t (zy_l (zy_l (zy_r (zy_l (zy_t (zy_t (zy_t (zy_t (zy_t (zy_t (zy_t (zy_t (zy_t (zy_t (zy_t (zy_t zy_h))))))))))))))))) (zy_c (zy_t (zy_l (zy_l (zy_r (zy_l (zy_t (zy_t (zy_t (zy_t (zy_t (zy_t (zy_t (zy_t (zy_t (zy_t (zy_t (zy_t (zy_t zy_h)))))))))))))))))) (zy_c (zy_t (zy_l (zy_l (zy_r (zy_l (zy_t (zy_t (zy_t (zy_t (zy_t (zy_t (zy_t (zy_t (zy_t (zy_t (zy_t (zy_t (zy_t (zy_t zy_h))))))))))))))))))) (zy_c (zy_t (zy_l (zy_l (zy_r (zy_l (zy_t (zy_t (zy_t (zy_t (zy_t (zy_t (zy_t (zy_t (zy_t (zy_t (zy_t (zy_t (zy_t (zy_t (zy_t zy_h)))))))))))))))))))) (zy_c (zy_t (zy_l (zy_l (zy_r (zy_l (zy_t (zy_t (zy_t (zy_t (zy_t (zy_t (zy_t (zy_t (zy_t (zy_t (zy_t (zy_t (zy_t (zy_t (zy_t (zy_t zy_h))))))))))))))))))))) (zy_c (zy_t (zy_l (zy_l (zy_r (zy_l (zy_t (zy_t (zy_t (zy_t (zy_t (zy_t (zy_t (zy_t (zy_t (zy_t (zy_t (zy_t (zy_t (zy_t (zy_t (zy_t (zy_t zy_h)))))))))))))))))))))) zy_n)))))))))))))))))))))))) (zy_a (zy_c (zy_t (zy_l (zy_l (zy_r (zy_l (zy_t (zy_t (zy_t (zy_t (zy_t (zy_t (zy_t (zy_t (zy_t (zy_t (zy_t (zy_t (zy_t (zy_t (zy_t (zy_t (zy_t (zy_t zy_h))))))))))))))))))))))) (zy_c (zy_t (zy_l (zy_l (zy_r (zy_l (zy_t (zy_t (zy_t (zy_t (zy_t (zy_t (zy_t (zy_t (zy_t (zy_t (zy_t (zy_t (zy_t (zy_t (zy_t (zy_t (zy_t (zy_t (zy_t zy_h)))))))))))))))))))))))) (zy_c (zy_t (zy_l (zy_l (zy_r (zy_l (zy_t (zy_t (zy_t (zy_t (zy_t (zy_t (zy_t (zy_t (zy_t (zy_t (zy_t (zy_t (zy_t (zy_t (zy_t (zy_t (zy_t (zy_t (zy_t (zy_t zy_h))))))))))))))))))))))))) (zy_c (zy_t (zy_l (zy_l (zy_r (zy_l (zy_t (zy_t (zy_t (zy_t (zy_t (zy_t (zy_t (zy_t (zy_t (zy_t (zy_t (zy_t (zy_t (zy_t (zy_t (zy_t (zy_t (zy_t (zy_t (zy_t (zy_t zy_h)))))))))))))))))))))))))) (zy_c (zy_t (zy_l (zy_l (zy_r (zy_l (zy_t (zy_t (zy_t (zy_t (zy_t (zy_t (zy_t (zy_t (zy_t (zy_t (zy_t (zy_t (zy_t (zy_t (zy_t (zy_t (zy_t (zy_t (zy_t (zy_t (zy_t (zy_t zy_h))))))))))))))))))))))))))) (zy_c (zy_t (zy_l (zy_l (zy_r (zy_l (zy_t (zy_t (zy_t (zy_t (zy_t (zy_t (zy_t (zy_t (zy_t (zy_t (zy_t (zy_t (zy_t (zy_t (zy_t (zy_t (zy_t (zy_t (zy_t (zy_t (zy_t (zy_t (zy_t zy_h)))))))))))))))))))))))))))) (zy_c (zy_t (zy_l (zy_l (zy_r (zy_r (zy_l zy_h)))))) (zy_c (zy_t (zy_l (zy_l (zy_r (zy_r (zy_l (zy_t zy_h))))))) (zy_c (zy_t (zy_l (zy_l (zy_r (zy_r (zy_l (zy_t (zy_t zy_h)))))))) (zy_c (zy_t (zy_l (zy_l (zy_r (zy_r (zy_l (zy_t (zy_t (zy_t zy_h))))))))) (zy_c (zy_t (zy_l (zy_l (zy_r (zy_r (zy_l (zy_t (zy_t (zy_t (zy_t zy_h)))))))))) (zy_c (zy_t (zy_l (zy_l (zy_r (zy_r (zy_l (zy_t (zy_t (zy_t (zy_t (zy_t zy_h))))))))))) (zy_c (zy_t (zy_l (zy_l (zy_r (zy_r (zy_l (zy_t (zy_t (zy_t (zy_t (zy_t (zy_t zy_h)))))))))))) (zy_c (zy_t (zy_l (zy_l (zy_r (zy_r (zy_l (zy_t (zy_t (zy_t (zy_t (zy_t (zy_t (zy_t zy_h))))))))))))) (zy_c (zy_t (zy_l (zy_l (zy_r (zy_r (zy_l (zy_t (zy_t (zy_t (zy_t (zy_t (zy_t (zy_t (zy_t zy_h)))))))))))))) (zy_c (zy_t (zy_l (zy_l (zy_r (zy_r (zy_l (zy_t (zy_t (zy_t (zy_t (zy_t (zy_t (zy_t (zy_t (zy_t zy_h))))))))))))))) (zy_c (zy_t (zy_l (zy_l (zy_r (zy_r (zy_l (zy_t (zy_t (zy_t (zy_t (zy_t (zy_t (zy_t (zy_t (zy_t (zy_t zy_h)))))))))))))))) (zy_c (zy_t (zy_l (zy_l (zy_r (zy_r (zy_l (zy_t (zy_t (zy_t (zy_t (zy_t (zy_t (zy_t (zy_t (zy_t (zy_t (zy_t zy_h))))))))))))))))) (zy_c (zy_t (zy_l (zy_l (zy_r (zy_r (zy_l (zy_t (zy_t (zy_t (zy_t (zy_t (zy_t (zy_t (zy_t (zy_t (zy_t (zy_t (zy_t zy_h)))))))))))))))))) (zy_c (zy_t (zy_l (zy_l (zy_r (zy_r (zy_l (zy_t (zy_t (zy_t (zy_t (zy_t (zy_t (zy_t (zy_t (zy_t (zy_t (zy_t (zy_t (zy_t zy_h))))))))))))))))))) (zy_c (zy_t (zy_l (zy_l (zy_r (zy_r (zy_l (zy_t (zy_t (zy_t (zy_t (zy_t (zy_t (zy_t (zy_t (zy_t (zy_t (zy_t (zy_t (zy_t (zy_t zy_h)))))))))))))))))))) (zy_c (zy_t (zy_l (zy_l (zy_r (zy_r (zy_l (zy_t (zy_t (zy_t (zy_t (zy_t (zy_t (zy_t (zy_t (zy_t (zy_t (zy_t (zy_t (zy_t (zy_t (zy_t zy_h))))))))))))))))))))) (zy_c (zy_t (zy_l (zy_l (zy_r (zy_r (zy_l (zy_t (zy_t (zy_t (zy_t (zy_t (zy_t (zy_t (zy_t (zy_t (zy_t (zy_t (zy_t (zy_t (zy_t (zy_t (zy_t zy_h)))))))))))))))))))))) (zy_c (zy_t (zy_l (zy_l (zy_r (zy_r (zy_l (zy_t (zy_t (zy_t (zy_t (zy_t (zy_t (zy_t (zy_t (zy_t (zy_t (zy_t (zy_t (zy_t (zy_t (zy_t (zy_t (zy_t zy_h))))))))))))))))))))))) zy_n)))))))))))))))))))))))) (zy_a (zy_c (zy_t (zy_l (zy_l (zy_r (zy_r (zy_l (zy_t (zy_t (zy_t (zy_t (zy_t (zy_t (zy_t (zy_t (zy_t (zy_t (zy_t (zy_t (zy_t (zy_t (zy_t (zy_t (zy_t (zy_t zy_h)))))))))))))))))))))))) (zy_c (zy_t (zy_l (zy_l (zy_r (zy_r (zy_l (zy_t (zy_t (zy_t (zy_t (zy_t (zy_t (zy_t (zy_t (zy_t (zy_t (zy_t (zy_t (zy_t (zy_t (zy_t (zy_t (zy_t (zy_t (zy_t zy_h))))))))))))))))))))))))) (zy_c (zy_t (zy_l (zy_l (zy_r (zy_r (zy_l (zy_t (zy_t (zy_t (zy_t (zy_t (zy_t (zy_t (zy_t (zy_t (zy_t (zy_t (zy_t (zy_t (zy_t (zy_t (zy_t (zy_t (zy_t (zy_t (zy_t zy_h)))))))))))))))))))))))))) (zy_c (zy_t (zy_l (zy_l (zy_r (zy_r (zy_l (zy_t (zy_t (zy_t (zy_t (zy_t (zy_t (zy_t (zy_t (zy_t (zy_t (zy_t (zy_t (zy_t (zy_t (zy_t (zy_t (zy_t (zy_t (zy_t (zy_t (zy_t zy_h))))))))))))))))))))))))))) (zy_c (zy_t (zy_l (zy_l (zy_r (zy_r (zy_l (zy_t (zy_t (zy_t (zy_t (zy_t (zy_t (zy_t (zy_t (zy_t (zy_t (zy_t (zy_t (zy_t (zy_t (zy_t (zy_t (zy_t (zy_t (zy_t (zy_t (zy_t (zy_t zy_h)))))))))))))))))))))))))))) (zy_c (zy_t (zy_l (zy_l (zy_r (zy_r (zy_l (zy_t (zy_t (zy_t (zy_t (zy_t (zy_t (zy_t (zy_t (zy_t (zy_t (zy_t (zy_t (zy_t (zy_t (zy_t (zy_t (zy_t (zy_t (zy_t (zy_t (zy_t (zy_t (zy_t zy_h))))))))))))))))))))))))))))) (zy_c (zy_t (zy_l (zy_l (zy_r (zy_r (zy_r zy_h)))))) (zy_c (zy_t (zy_l (zy_l (zy_r (zy_r (zy_r (zy_t zy_h))))))) (zy_c (zy_t (zy_l (zy_l (zy_r (zy_r (zy_r (zy_t (zy_t zy_h)))))))) (zy_c (zy_t (zy_l (zy_l (zy_r (zy_r (zy_r (zy_t (zy_t (zy_t zy_h))))))))) (zy_c (zy_t (zy_l (zy_l (zy_r (zy_r (zy_r (zy_t (zy_t (zy_t (zy_t zy_h)))))))))) (zy_c (zy_t (zy_l (zy_l (zy_r (zy_r (zy_r (zy_t (zy_t (zy_t (zy_t (zy_t zy_h))))))))))) (zy_c (zy_t (zy_l (zy_l (zy_r (zy_r (zy_r (zy_t (zy_t (zy_t (zy_t (zy_t (zy_t zy_h)))))))))))) (zy_c (zy_t (zy_l (zy_l (zy_r (zy_r (zy_r (zy_t (zy_t (zy_t (zy_t (zy_t (zy_t (zy_t zy_h))))))))))))) (zy_c (zy_t (zy_l (zy_l (zy_r (zy_r (zy_r (zy_t (zy_t (zy_t (zy_t (zy_t (zy_t (zy_t (zy_t zy_h)))))))))))))) (zy_c (zy_t (zy_l (zy_l (zy_r (zy_r (zy_r (zy_t (zy_t (zy_t (zy_t (zy_t (zy_t (zy_t (zy_t (zy_t zy_h))))))))))))))) (zy_c (zy_t (zy_l (zy_l (zy_r (zy_r (zy_r (zy_t (zy_t (zy_t (zy_t (zy_t (zy_t (zy_t (zy_t (zy_t (zy_t zy_h)))))))))))))))) (zy_c (zy_t (zy_l (zy_l (zy_l (zy_t (zy_t (zy_t zy_h))))))) (zy_c (zy_t (zy_l (zy_l (zy_l (zy_t (zy_t (zy_t (zy_t zy_h)))))))) (zy_c (zy_t (zy_l (zy_l (zy_l (zy_t (zy_t (zy_t (zy_t (zy_t zy_h))))))))) (zy_c (zy_t (zy_l (zy_l (zy_l (zy_t (zy_t (zy_t (zy_t (zy_t (zy_t (zy_t zy_h))))))))))) (zy_c (zy_t (zy_l (zy_l (zy_l (zy_t (zy_t (zy_t (zy_t (zy_t (zy_t (zy_t (zy_t zy_h)))))))))))) (zy_c (zy_t (zy_l (zy_l (zy_l (zy_t (zy_t (zy_t (zy_t (zy_t (zy_t (zy_t (zy_t (zy_t zy_h))))))))))))) (zy_c (zy_t (zy_l (zy_l (zy_l (zy_t (zy_t (zy_t (zy_t (zy_t (zy_t (zy_t (zy_t (zy_t (zy_t zy_h)))))))))))))) zy_n)))))))))))))))))))))))) (zy_c (zy_t (zy_l (zy_l (zy_l zy_h)))) (zy_c (zy_t (zy_l (zy_l (zy_l (zy_t zy_h))))) (zy_c (zy_t (zy_l (zy_l (zy_l (zy_t (zy_t zy_h)))))) (zy_c (zy_t (zy_l (zy_l (zy_l (zy_t (zy_t (zy_t (zy_t (zy_t (zy_t (zy_t (zy_t (zy_t (zy_t (zy_t zy_h))))))))))))))) (zy_c (zy_t (zy_l (zy_l (zy_l (zy_t (zy_t (zy_t (zy_t (zy_t (zy_t (zy_t (zy_t (zy_t (zy_t (zy_t (zy_t zy_h)))))))))))))))) (zy_c (zy_t (zy_l (zy_l (zy_l (zy_t (zy_t (zy_t (zy_t (zy_t (zy_t (zy_t (zy_t (zy_t (zy_t (zy_t (zy_t (zy_t zy_h))))))))))))))))) (zy_c (zy_t (zy_l (zy_l (zy_l (zy_t (zy_t (zy_t (zy_t (zy_t (zy_t (zy_t (zy_t (zy_t (zy_t (zy_t (zy_t (zy_t (zy_t zy_h)))))))))))))))))) (zy_c (zy_t (zy_l (zy_l (zy_r (zy_r (zy_r (zy_t (zy_t (zy_t (zy_t (zy_t (zy_t (zy_t (zy_t (zy_t (zy_t (zy_t zy_h))))))))))))))))) (zy_c (zy_t (zy_l (zy_l (zy_r (zy_r (zy_r (zy_t (zy_t (zy_t (zy_t (zy_t (zy_t (zy_t (zy_t (zy_t (zy_t (zy_t (zy_t zy_h)))))))))))))))))) (zy_c (zy_t (zy_l (zy_l (zy_r (zy_r (zy_r (zy_t (zy_t (zy_t (zy_t (zy_t (zy_t (zy_t (zy_t (zy_t (zy_t (zy_t (zy_t (zy_t zy_h))))))))))))))))))) (zy_c (zy_t (zy_l (zy_l (zy_r (zy_r (zy_r (zy_t (zy_t (zy_t (zy_t (zy_t (zy_t (zy_t (zy_t (zy_t (zy_t (zy_t (zy_t (zy_t (zy_t zy_h)))))))))))))))))))) (zy_c (zy_t (zy_l (zy_l (zy_r (zy_r (zy_r (zy_t (zy_t (zy_t (zy_t (zy_t (zy_t (zy_t (zy_t (zy_t (zy_t (zy_t (zy_t (zy_t (zy_t (zy_t zy_h))))))))))))))))))))) (zy_c (zy_t (zy_l (zy_l (zy_r (zy_r (zy_r (zy_t (zy_t (zy_t (zy_t (zy_t (zy_t (zy_t (zy_t (zy_t (zy_t (zy_t (zy_t (zy_t (zy_t (zy_t (zy_t zy_h)))))))))))))))))))))) (zy_c (zy_t (zy_l (zy_l (zy_r (zy_r (zy_r (zy_t (zy_t (zy_t (zy_t (zy_t (zy_t (zy_t (zy_t (zy_t (zy_t (zy_t (zy_t (zy_t (zy_t (zy_t (zy_t (zy_t zy_h))))))))))))))))))))))) (zy_c (zy_t (zy_l (zy_l (zy_r (zy_r (zy_r (zy_t (zy_t (zy_t (zy_t (zy_t (zy_t (zy_t (zy_t (zy_t (zy_t (zy_t (zy_t (zy_t (zy_t (zy_t (zy_t (zy_t (zy_t zy_h)))))))))))))))))))))))) zy_n)))))))))))))))))) (zy_p (fun _ h => (zy_t (zy_l (zy_r h)))))) (zy_p (fun _ h => (zy_t (zy_r h))))))) (by decide +kernel) | exact goodIn_r _ [19, 20, 21, 22, 7, 23, 24, 25, 26, 27, 28, 29, 30, 31, 32, 33, 34, 35, 36, 37, 38, 39, 40, 41, 42, 43, 44, 45, 46, 47, 48, 49, 50, 51, 52, 53, 54, 55, 56, 57, 58, 59, 60, 61, 62, 63, 64, 65, 66, 67, 68, 69, 70, 71, 72, 73, 74, 75, 76, 77, 78, 79, 80, 81, 82, 83, 4, 5, 6, 8, 9, 10, 11, 1, 2, 3, 12, 13, 14, 15, 84, 85, 86, 87, 88, 89, 90, 91, 92, 93, 94, 95, 96, 97, 98, 99, 100, 101, 102, 103, 104] (by decide +kernel) (by decide +kernel)
set_option maxRecDepth 20000 in
theorem gX8_lookAtAll_X8_lookAt : GoodIn wsX8_lookAtAll (wsV RX8 55 RX8 yX8_lookAt wsX8_lookAt) := by first | exact goodIn_app (goodIn_sub (show zy_S _ wsX8_lookAtAll from (zy_c (zy_t (zy_l (zy_l (zy_l (zy_t (zy_t (zy_t (zy_t (zy_t (zy_t (zy_t (zy_t (zy_t (zy_t (zy_t (zy_t (zy_t (zy_t (zy_t zy_h))))))))))))))))))) (zy_c (zy_t (zy_l (zy_l (zy_l (zy_t (zy_t (zy_t (zy_t (zy_t (zy_t (zy_t (zy_t (zy_t (zy_t (zy_t (zy_t (zy_t (zy_t (zy_t (zy_t zy_h)))))))))))))))))))) (zy_c (zy_t (zy_l (zy_l (zy_l (zy_t (zy_t (zy_t (zy_t (zy_t (zy_t (zy_t (zy_t (zy_t (zy_t (zy_t (zy_t (zy_t (zy_t (zy_t (zy_t (zy_t zy_h))))))))))))))))))))) (zy_c (zy_t (zy_l (zy_l (zy_l (zy_t (zy_t (zy_t (zy_t (zy_t (zy_t zy_h)))))))))) zy_n))))) (by decide +kernel)) ggX8_lookAtAll_X8_lookAt | exact goodIn_app (goodIn_of _ (by decide +kernel)) ggX8_lookAtAll_X8_lookAt
theorem dX8_lookAtAll_0 : decode cX8_lookAtAll 0 = .ok (.aload_n 0, 1) := by decide +kernel
theorem dX8_lookAtAll_1 : decode cX8_lookAtAll 1 = .ok (.dup, 1) := by decide +kernel
theorem dX8_lookAtAll_2 : decode cX8_lookAtAll 2 = .ok (.getfield 28, 3) := by decide +kernel
theorem dX8_lookAtAll_5 : decode cX8_lookAtAll 5 = .ok (.aload_n 0, 1) := by decide +kernel
theorem dX8_lookAtAll_6 : decode cX8_lookAtAll 6 = .ok (.getfield 32, 3) := by decide +kernel
theorem dX8_lookAtAll_9 : decode cX8_lookAtAll 9 = .ok (.iadd, 1) := by decide +kernel
theorem dX8_lookAtAll_10 : decode cX8_lookAtAll 10 = .ok (.putfield 28, 3) := by decide +kernel
theorem dX8_lookAtAll_13 : decode cX8_lookAtAll 13 = .ok (.aload_n 0, 1) := by decide +kernel
theorem dX8_lookAtAll_14 : decode cX8_lookAtAll 14 = .ok (.iconst 0, 1) := by decide +kernel
theorem dX8_lookAtAll_15 : decode cX8_lookAtAll 15 = .ok (.putfield 32, 3) := by decide +kernel
theorem dX8_lookAtAll_18 : decode cX8_lookAtAll 18 = .ok (.aload_n 0, 1) := by decide +kernel
theorem dX8_lookAtAll_19 : decode cX8_lookAtAll 19 = .ok (.iconst 0, 1) := by decide +kernel
theorem dX8_lookAtAll_20 : decode cX8_lookAtAll 20 = .ok (.iconst 0, 1) := by decide +kernel
theorem dX8_lookAtAll_21 : decode cX8_lookAtAll 21 = .ok (.iconst 0, 1) := by decide +kernel
theorem dX8_lookAtAll_22 : decode cX8_lookAtAll 22 = .ok (.invokevirtual 51, 3) := by decide +kernel
theorem dX8_lookAtAll_25 : decode cX8_lookAtAll 25 = .ok (.pop, 1) := by decide +kernel
theorem dX8_lookAtAll_26 : decode cX8_lookAtAll 26 = .ok (.iconst 0, 1) := by decide +kernel
theorem dX8_lookAtAll_27 : decode cX8_lookAtAll 27 = .ok (.istore_n 1, 1) := by decide +kernel
theorem dX8_lookAtAll_28 : decode cX8_lookAtAll 28 = .ok (.iload_n 1, 1) := by decide +kernel
theorem dX8_lookAtAll_29 : decode cX8_lookAtAll 29 = .ok (.aload_n 0, 1) := by decide +kernel
theorem dX8_lookAtAll_30 : decode cX8_lookAtAll 30 = .ok (.getfield 32, 3) := by decide +kernel
theorem dX8_lookAtAll_33 : decode cX8_lookAtAll 33 = .ok (.if_icmp .ge 33, 3) := by decide +kernel
theorem dX8_lookAtAll_36 : decode cX8_lookAtAll 36 = .ok (.iload_n 1, 1) := by decide +kernel
theorem dX8_lookAtAll_37 : decode cX8_lookAtAll 37 = .ok (.sipush 20000, 3) := by decide +kernel
theorem dX8_lookAtAll_40 : decode cX8_lookAtAll 40 = .ok (.if_icmp .ge 26, 3) := by decide +kernel
theorem dX8_lookAtAll_43 : decode cX8_lookAtAll 43 = .ok (.aload_n 0, 1) := by decide +kernel
theorem dX8_lookAtAll_44 : decode cX8_lookAtAll 44 = .ok (.aload_n 0, 1) := by decide +kernel
theorem dX8_lookAtAll_45 : decode cX8_lookAtAll 45 = .ok (.getfield 11, 3) := by decide +kernel
theorem dX8_lookAtAll_48 : decode cX8_lookAtAll 48 = .ok (.iload_n 1, 1) := by decide +kernel
theorem dX8_lookAtAll_49 : decode cX8_lookAtAll 49 = .ok (.iaload, 1) := by decide +kernel
theorem dX8_lookAtAll_50 : decode cX8_lookAtAll 50 = .ok (.invokevirtual 55, 3) := by decide +kernel
theorem dX8_lookAtAll_53 : decode cX8_lookAtAll 53 = .ok (.istore_n 2, 1) := by decide +kernel
theorem dX8_lookAtAll_54 : decode cX8_lookAtAll 54 = .ok (.iload_n 2, 1) := by decide +kernel
theorem dX8_lookAtAll_55 : decode cX8_lookAtAll 55 = .ok (.ifCond .eq 5, 3) := by decide +kernel
theorem dX8_lookAtAll_58 : decode cX8_lookAtAll 58 = .ok (.iload_n 2, 1) := by decide +kernel
theorem dX8_lookAtAll_59 : decode cX8_lookAtAll 59 = .ok (.ireturn, 1) := by decide +kernel
theorem dX8_lookAtAll_60 : decode cX8_lookAtAll 60 = .ok (.iinc 1 1, 3) := by decide +kernel
theorem dX8_lookAtAll_63 : decode cX8_lookAtAll 63 = .ok (.goto (-35), 3) := by decide +kernel
theorem dX8_lookAtAll_66 : decode cX8_lookAtAll 66 = .ok (.iconst 0, 1) := by decide +kernel
theorem dX8_lookAtAll_67 : decode cX8_lookAtAll 67 = .ok (.ireturn, 1) := by decide +kernel
set_option maxRecDepth 20000 in
theorem ggX8_lookAt_X8_askAll : GoodIn wsX8_lookAt wsX8_askAll := by first | exact goodIn_sub (show zy_S _ wsX8_lookAt from (zy_c (zy_t (zy_l (zy_l (zy_l (zy_t (zy_t (zy_t (zy_t zy_h)))))))) (zy_a (zy_a (zy_a (zy_c (zy_t (zy_l (zy_l (zy_l (zy_t (zy_t (zy_t (zy_t (zy_t zy_h))))))))) (zy_c (zy_t (zy_l (zy_l (zy_l (zy_t (zy_t (zy_t (zy_t (zy_t (zy_t zy_h)))))))))) (zy_c (zy_t (zy_l (zy_l (zy_l (zy_t (zy_t (zy_t (zy_t (zy_t (zy_t (zy_t zy_h))))))))))) (zy_c (zy_t (zy_l (zy_l (zy_l (zy_t (zy_t (zy_t (zy_t (zy_t (zy_t (zy_t (zy_t zy_h)))))))))))) (zy_c (zy_t (zy_l (zy_l (zy_l (zy_t (zy_t (zy_t (zy_t (zy_t (zy_t (zy_t (zy_t (zy_t zy_h))))))))))))) (zy_c (zy_t (zy_l (zy_l (zy_l (zy_t (zy_t (zy_t (zy_t (zy_t (zy_t (zy_t (zy_t (zy_t (zy_t zy_h)))))))))))))) (zy_c (zy_t (zy_l (zy_l (zy_l (zy_t (zy_t (zy_t (zy_t (zy_t (zy_t (zy_t (zy_t (zy_t (zy_t (zy_t zy_h))))))))))))))) (zy_c (zy_t (zy_l (zy_l (zy_l (zy_t (zy_t (zy_t (zy_t (zy_t (zy_t (zy_t (zy_t (zy_t (zy_t (zy_t (zy_t zy_h)))))))))))))))) (zy_c (zy_t (zy_l (zy_l (zy_l (zy_t (zy_t (zy_t (zy_t (zy_t (zy_t (zy_t (zy_t (zy_t (zy_t (zy_t (zy_t (zy_t zy_h))))))))))))))))) (zy_c (zy_t (zy_l (zy_l (zy_l (zy_t (zy_t (zy_t (zy_t (zy_t (zy_t (zy_t (zy_t (zy_t (zy_t (zy_t (zy_t (zy_t (zy_t zy_h)))))))))))))))))) (zy_c (zy_t (zy_l (zy_l (zy_l (zy_t (zy_t (zy_t (zy_t (zy_t (zy_t (zy_t (zy_t (zy_t (zy_t (zy_t (zy_t (zy_t (zy_t (zy_t zy_h))))))))))))))))))) (zy_c (zy_t (zy_l (zy_l (zy_l (zy_t (zy_t (zy_t zy_h))))))) (zy_c (zy_t (zy_l (zy_l (zy_l (zy_t (zy_t (zy_t (zy_t (zy_t (zy_t (zy_t (zy_t (zy_t (zy_t (zy_t (zy_t (zy_t (zy_t (zy_t (zy_t zy_h)))))))))))))))))))) (zy_c (zy_t (zy_l (zy_l (zy_l (zy_t (zy_t (zy_t (zy_t (zy_t (zy_t (zy_t (zy_t (zy_t (zy_t (zy_t (zy_t (zy_t (zy_t (zy_t (zy_t (zy_t zy_h))))))))))))))))))))) (zy_c (zy_t (zy_l (zy_l (zy_l (zy_t (zy_t (zy_t (zy_t (zy_t (zy_t (zy_t (zy_t (zy_t (zy_t (zy_t (zy_t (zy_t (zy_t (zy_t (zy_t (zy_t (zy_t zy_h)))))))))))))))))))))) (zy_c (zy_t (zy_l (zy_l (zy_l (zy_t (zy_t (zy_t (zy_t (zy_t (zy_t (zy_t (zy_t (zy_t (zy_t (zy_t (zy_t (zy_t (zy_t (zy_t (zy_t (zy_t (zy_t (zy_t zy_h))))))))))))))))))))))) (zy_c (zy_t (zy_l (zy_l (zy_l (zy_t (zy_t (zy_t (zy_t (zy_t (zy_t (zy_t (zy_t (zy_t (zy_t (zy_t (zy_t (zy_t (zy_t (zy_t (zy_t (zy_t (zy_t (zy_t (zy_t zy_h)))))))))))))))))))))))) (zy_c (zy_t (zy_l (zy_l (zy_l (zy_t (zy_t (zy_t (zy_t (zy_t (zy_t (zy_t (zy_t (zy_t (zy_t (zy_t (zy_t (zy_t (zy_t (zy_t (zy_t (zy_t (zy_t (zy_t (zy_t (zy_t zy_h))))))))))))))))))))))))) (zy_c (zy_t (zy_l (zy_l (zy_l (zy_t (zy_t (zy_t (zy_t (zy_t (zy_t (zy_t (zy_t (zy_t (zy_t (zy_t (zy_t (zy_t (zy_t (zy_t (zy_t (zy_t (zy_t (zy_t (zy_t (zy_t (zy_t zy_h)))))))))))))))))))))))))) (zy_c (zy_t (zy_l (zy_l (zy_l (zy_t (zy_t (zy_t (zy_t (zy_t (zy_t (zy_t (zy_t (zy_t (zy_t (zy_t (zy_t (zy_t (zy_t (zy_t (zy_t (zy_t (zy_t (zy_t (zy_t (zy_t (zy_t (zy_t zy_h))))))))))))))))))))))))))) (zy_c (zy_t (zy_l (zy_l (zy_r (zy_l zy_h))))) (zy_c (zy_t (zy_l (zy_l (zy_r (zy_l (zy_t zy_h)))))) (zy_c (zy_t (zy_l (zy_l (zy_r (zy_l (zy_t (zy_t zy_h))))))) (zy_c (zy_t (zy_l (zy_l (zy_r (zy_l (zy_t (zy_t (zy_t zy_h)))))))) zy_n)))))))))))))))))))))))) (zy_a (zy_c (zy_t (zy_l (zy_l (zy_r (zy_l (zy_t (zy_t (zy_t (zy_t zy_h))))))))) (zy_c (zy_t (zy_l (zy_l (zy_r (zy_l (zy_t (zy_t (zy_t (zy_t (zy_t zy_h)))))))))) (zy_c (zy_t (zy_l (zy_l (zy_r (zy_l (zy_t (zy_t (zy_t (zy_t (zy_t (zy_t zy_h))))))))))) (zy_c (zy_t (zy_l (zy_l (zy_r (zy_l (zy_t (zy_t (zy_t (zy_t (zy_t (zy_t (zy_t zy_h)))))))))))) (zy_c (zy_t (zy_l (zy_l (zy_r (zy_l (zy_t (zy_t (zy_t (zy_t (zy_t (zy_t (zy_t (zy_t zy_h))))))))))))) (zy_c (zy_t (zy_l (zy_l (zy_r (zy_l (zy_t (zy_t (zy_t (zy_t (zy_t (zy_t (zy_t (zy_t (zy_t zy_h)))))))))))))) (zy_c (zy_t (zy_l (zy_l (zy_r (zy_l (zy_t (zy_t (zy_t (zy_t (zy_t (zy_t (zy_t (zy_t (zy_t (zy_t zy_h))))))))))))))) (zy_c (zy_t (zy_l (zy_l (zy_r (zy_l (zy_t (zy_t (zy_t (zy_t (zy_t (zy_t (zy_t (zy_t (zy_t (zy_t (zy_t zy_h)))))))))))))))) (zy_c (zy_t (zy_l (zy_l (zy_r (zy_l (zy_t (zy_t (zy_t (zy_t (zy_t (zy_t (zy_t (zy_t (zy_t (zy_t (zy_t (zy_t zy_h))))))))))))))))) (zy_c (zy_t (zy_l (zy_l (zy_r (zy_l (zy_t (zy_t (zy_t (zy_t (zy_t (zy_t (zy_t (zy_t (zy_t (zy_t (zy_t (zy_t (zy_t zy_h)))))))))))))))))) (zy_c (zy_t (zy_l (zy_l (zy_r (zy_l (zy_t (zy_t (zy_t (zy_t (zy_t (zy_t (zy_t (zy_t (zy_t (zy_t (zy_t (zy_t (zy_t (zy_t zy_h))))))))))))))))))) (zy_c (zy_t (zy_l (zy_l (zy_r (zy_l (zy_t (zy_t (zy_t (zy_t (zy_t (zy_t (zy_t (zy_t (zy_t (zy_t (zy_t (zy_t (zy_t (zy_t (zy_t zy_h)))))))))))))))))))) (zy_c (zy_t (zy_l (zy_l (zy_r (zy_l (zy_t (zy_t (zy_t (zy_t (zy_t (zy_t (zy_t (zy_t (zy_t (zy_t (zy_t (zy_t (zy_t (zy_t (zy_t (zy_t zy_h))))))))))))))))))))) (zy_c (zy_t (zy_l (zy_l (zy_r (zy_l (zy_t (zy_t (zy_t (zy_t (zy_t (zy_t (zy_t (zy_t (zy_t (zy_t (zy_t (zy_t (zy_t (zy_t (zy_t (zy_t (zy_t zy_h)))))))))))))))))))))) (zy_c (zy_t (zy_l (zy_l (zy_r (zy_l (zy_t (zy_t (zy_t (zy_t (zy_t (zy_t (zy_t (zy_t (zy_t (zy_t (zy_t (zy_t (zy_t (zy_t (zy_t (zy_t (zy_t (zy_t zy_h))))))))))))))))))))))) (zy_c (zy_t (zy_l (zy_l (zy_r (zy_l (zy_t (zy_t (zy_t (zy_t (zy_t (zy_t (zy_t (zy_t (zy_t (zy_t (zy_t (zy_t (zy_t (zy_t (zy_t (zy_t (zy_t (zy_t (zy_t zy_h)))))))))))))))))))))))) (zy_c (zy_t (zy_l (zy_l (zy_r (zy_l (zy_t (zy_t (zy_t (zy_t (zy_t (zy_t (zy_t (zy_t (zy_t (zy_t (zy_t (zy_t (zy_t (zy_t (zy_t (zy_t (zy_t (zy_t (zy_t (zy_t zy_h))))))))))))))))))))))))) (zy_c (zy_t (zy_l (zy_l (zy_r (zy_l (zy_t (zy_t (zy_t (zy_t (zy_t (zy_t (zy_t (zy_t (zy_t (zy_t (zy_t (zy_t (zy_t (zy_t (zy_t (zy_t (zy_t (zy_t (zy_t (zy_t (zy_t zy_h)))))))))))))))))))))))))) (zy_c (zy_t (zy_l (zy_l (zy_r (zy_l (zy_t (zy_t (zy_t (zy_t (zy_t (zy_t (zy_t (zy_t (zy_t (zy_t (zy_t (zy_t (zy_t (zy_t (zy_t (zy_t (zy_t (zy_t (zy_t (zy_t (zy_t (zy_t zy_h))))))))))))))))))))))))))) (zy_c (zy_t (zy_l (zy_l (zy_r (zy_l (zy_t (zy_t (zy_t (zy_t (zy_t (zy_t (zy_t (zy_t (zy_t (zy_t (zy_t (zy_t (zy_t (zy_t (zy_t (zy_t (zy_t (zy_t (zy_t (zy_t (zy_t (zy_t (zy_t zy_h)))))))))))))))))))))))))))) (zy_c (zy_t (zy_l (zy_l (zy_r (zy_r (zy_l zy_h)))))) (zy_c (zy_t (zy_l (zy_l (zy_r (zy_r (zy_l (zy_t zy_h))))))) (zy_c (zy_t (zy_l (zy_l (zy_r (zy_r (zy_l (zy_t (zy_t zy_h)))))))) (zy_c (zy_t (zy_l (zy_l (zy_r (zy_r (zy_l (zy_t (zy_t (zy_t zy_h))))))))) zy_n)))))))))))))))))))))))) (zy_a (zy_c (zy_t (zy_l (zy_l (zy_r (zy_r (zy_l (zy_t (zy_t (zy_t (zy_t zy_h)))))))))) (zy_c (zy_t (zy_l (zy_l (zy_r (zy_r (zy_l (zy_t (zy_t (zy_t (zy_t (zy_t zy_h))))))))))) (zy_c (zy_t (zy_l (zy_l (zy_r (zy_r (zy_l (zy_t (zy_t (zy_t (zy_t (zy_t (zy_t zy_h)))))))))))) (zy_c (zy_t (zy_l (zy_l (zy_r (zy_r (zy_l (zy_t (zy_t (zy_t (zy_t (zy_t (zy_t (zy_t zy_h))))))))))))) (zy_c (zy_t (zy_l (zy_l (zy_r (zy_r (zy_l (zy_t (zy_t (zy_t (zy_t (zy_t (zy_t (zy_t (zy_t zy_h)))))))))))))) (zy_c (zy_t (zy_l (zy_l (zy_r (zy_r (zy_l (zy_t (zy_t (zy_t (zy_t (zy_t (zy_t (zy_t (zy_t (zy_t zy_h))))))))))))))) (zy_c (zy_t (zy_l (zy_l (zy_r (zy_r (zy_l (zy_t (zy_t (zy_t (zy_t (zy_t (zy_t (zy_t (zy_t (zy_t (zy_t zy_h)))))))))))))))) (zy_c (zy_t (zy_l (zy_l (zy_r (zy_r (zy_l (zy_t (zy_t (zy_t (zy_t (zy_t (zy_t (zy_t (zy_t (zy_t (zy_t (zy_t zy_h))))))))))))))))) (zy_c (zy_t (zy_l (zy_l (zy_r (zy_r (zy_l (zy_t (zy_t (zy_t (zy_t (zy_t (zy_t (zy_t (zy_t (zy_t (zy_t (zy_t (zy_t zy_h)))))))))))))))))) (zy_c (zy_t (zy_l (zy_l (zy_r (zy_r (zy_l (zy_t (zy_t (zy_t (zy_t (zy_t (zy_t (zy_t (zy_t (zy_t (zy_t (zy_t (zy_t (zy_t zy_h))))))))))))))))))) (zy_c (zy_t (zy_l (zy_l (zy_r (zy_r (zy_l (zy_t (zy_t (zy_t (zy_t (zy_t (zy_t (zy_t (zy_t (zy_t (zy_t (zy_t (zy_t (zy_t (zy_t zy_h)))))))))))))))))))) (zy_c (zy_t (zy_l (zy_l (zy_r (zy_r (zy_l (zy_t (zy_t (zy_t (zy_t (zy_t (zy_t (zy_t (zy_t (zy_t (zy_t (zy_t (zy_t (zy_t (zy_t (zy_t zy_h))))))))))))))))))))) (zy_c (zy_t (zy_l (zy_l (zy_r (zy_r (zy_l (zy_t (zy_t (zy_t (zy_t (zy_t (zy_t (zy_t (zy_t (zy_t (zy_t (zy_t (zy_t (zy_t (zy_t (zy_t (zy_t zy_h)))))))))))))))))))))) (zy_c (zy_t (zy_l (zy_l (zy_r (zy_r (zy_l (zy_t (zy_t (zy_t (zy_t (zy_t (zy_t (zy_t (zy_t (zy_t (zy_t (zy_t (zy_t (zy_t (zy_t (zy_t (zy_t (zy_t zy_h))))))))))))))))))))))) (zy_c (zy_t (zy_l (zy_l (zy_r (zy_r (zy_l (zy_t (zy_t (zy_t (zy_t (zy_t (zy_t (zy_t (zy_t (zy_t (zy_t (zy_t (zy_t (zy_t (zy_t (zy_t (zy_t (zy_t (zy_t zy_h)))))))))))))))))))))))) (zy_c (zy_t (zy_l (zy_l (zy_r (zy_r (zy_l (zy_t (zy_t (zy_t (zy_t (zy_t (zy_t (zy_t (zy_t (zy_t (zy_t (zy_t (zy_t (zy_t (zy_t (zy_t (zy_t (zy_t (zy_t (zy_t zy_h))))))))))))))))))))))))) (zy_c (zy_t (zy_l (zy_l (zy_r (zy_r (zy_l (zy_t (zy_t (zy_t (zy_t (zy_t (zy_t (zy_t (zy_t (zy_t (zy_t (zy_t (zy_t (zy_t (zy_t (zy_t (zy_t (zy_t (zy_t (zy_t (zy_t zy_h)))))))))))))))))))))))))) (zy_c (zy_t (zy_l (zy_l (zy_r (zy_r (zy_l (zy_t (zy_t (zy_t (zy_t (zy_t (zy_t (zy_t (zy_t (zy_t (zy_t (zy_t (zy_t (zy_t (zy_t (zy_t (zy_t (zy_t (zy_t (zy_t (zy_t (zy_t zy_h))))))))))))))))))))))))))) (zy_c (zy_t (zy_l (zy_l (zy_r (zy_r (zy_l (zy_t (zy_t (zy_t (zy_t (zy_t (zy_t (zy_t (zy_t (zy_t (zy_t (zy_t (zy_t (zy_t (zy_t (zy_t (zy_t (zy_t (zy_t (zy_t (zy_t (zy_t (zy_t zy_h)))))))))))))))))))))))))))) (zy_c (zy_t (zy_l (zy_l (zy_r (zy_r (zy_l (zy_t (zy_t (zy_t (zy_t (zy_t (zy_t (zy_t (zy_t (zy_t (zy_t (zy_t (zy_t (zy_t (zy_t (zy_t (zy_t (zy_t (zy_t (zy_t (zy_t (zy_t (zy_t (zy_t zy_h))))))))))))))))))))))))))))) (zy_c (zy_t (zy_l (zy_l (zy_r (zy_r (zy_r zy_h)))))) (zy_c (zy_t (zy_l (zy_l (zy_r (zy_r (zy_r (zy_t zy_h))))))) (zy_c (zy_t (zy_l (zy_l (zy_r (zy_r (zy_r (zy_t (zy_t zy_h)))))))) (zy_c (zy_t (zy_l (zy_l (zy_r (zy_r (zy_r (zy_t (zy_t (zy_t zy_h))))))))) zy_n)))))))))))))))))))))))) (zy_c (zy_t (zy_l (zy_l (zy_r (zy_r (zy_r (zy_t (zy_t (zy_t (zy_t zy_h)))))))))) (zy_c (zy_t (zy_l (zy_l (zy_r (zy_r (zy_r (zy_t (zy_t (zy_t (zy_t (zy_t zy_h))))))))))) (zy_c (zy_t (zy_l (zy_l (zy_r (zy_r (zy_r (zy_t (zy_t (zy_t (zy_t (zy_t (zy_t zy_h)))))))))))) zy_n)))))) (zy_p (fun _ h => (zy_t (zy_l (zy_r h)))))) (zy_p (fun _ h => (zy_t (zy_r h))))))) (by decide +kernel) | exact goodIn_r _ [5, 6, 7, 8, 9, 10, 11, 12, 13, 14, 15, 16, 4, 17, 18, 19, 20, 21, 22, 23, 24, 25, 26, 27, 28, 29, 30, 31, 32, 33, 34, 35, 36, 37, 38, 39, 40, 41, 42, 43, 44, 45, 46, 47, 48, 49, 50, 51, 52, 53, 54, 55, 56, 57, 58, 59, 60, 61, 62, 63, 64, 65, 66, 67, 68, 69, 70, 71, 72, 73, 74, 75, 76, 77, 78, 79, 88, 89, 90, 91, 92, 93, 94, 95, 96, 97, 98, 99, 100] (by decide +kernel) (by decide +kernel)
set_option maxRecDepth 20000 in
theorem gX8_lookAt_X8_askAll : GoodIn wsX8_lookAt (wsV RX8 59 RX8 yX8_askAll wsX8_askAll) := by first | exact goodIn_app (goodIn_sub (show zy_S _ wsX8_lookAt from (zy_c (zy_t (zy_l (zy_l (zy_l zy_h)))) (zy_c (zy_t (zy_l (zy_l (zy_l (zy_t zy_h))))) (zy_c (zy_t (zy_l (zy_l (zy_l (zy_t (zy_t zy_h)))))) (zy_c (zy_t (zy_l (zy_l (zy_l (zy_t (zy_t (zy_t zy_h))))))) zy_n))))) (by decide +kernel)) ggX8_lookAt_X8_askAll | exact goodIn_app (goodIn_of _ (by decide +kernel)) ggX8_lookAt_X8_askAll
set_option maxRecDepth 20000 in
theorem ggX8_lookAt_X8_giveAllBack : GoodIn wsX8_lookAt wsX8_giveAllBack := by first | exact goodIn_sub (show zy_S _ wsX8_lookAt from (zy_c (zy_t (zy_l (zy_l (zy_r (zy_r (zy_r (zy_t (zy_t (zy_t (zy_t (zy_t (zy_t (zy_t (zy_t (zy_t (zy_t zy_h)))))))))))))))) (zy_a (zy_c (zy_t (zy_l (zy_l (zy_l (zy_t (zy_t (zy_t (zy_t (zy_t (zy_t (zy_t (zy_t (zy_t (zy_t (zy_t (zy_t (zy_t (zy_t (zy_t (zy_t (zy_t zy_h))))))))))))))))))))) (zy_c (zy_t (zy_l (zy_l (zy_r (zy_r (zy_r (zy_t (zy_t (zy_t (zy_t (zy_t (zy_t (zy_t (zy_t (zy_t (zy_t (zy_t zy_h))))))))))))))))) (zy_c (zy_t (zy_l (zy_l (zy_r (zy_r (zy_r (zy_t (zy_t (zy_t (zy_t (zy_t (zy_t (zy_t (zy_t (zy_t (zy_t (zy_t (zy_t zy_h)))))))))))))))))) (zy_c (zy_t (zy_l (zy_l (zy_r (zy_r (zy_r (zy_t (zy_t (zy_t (zy_t (zy_t (zy_t (zy_t (zy_t (zy_t (zy_t (zy_t (zy_t (zy_t zy_h))))))))))))))))))) (zy_c (zy_t (zy_l (zy_l (zy_l (zy_t (zy_t (zy_t zy_h))))))) (zy_c (zy_t (zy_l (zy_l (zy_r (zy_r (zy_r (zy_t (zy_t (zy_t (zy_t (zy_t (zy_t (zy_t (zy_t (zy_t (zy_t (zy_t (zy_t (zy_t (zy_t zy_h)))))))))))))))))))) (zy_c (zy_t (zy_l (zy_l (zy_r (zy_r (zy_l (zy_t (zy_t (zy_t (zy_t (zy_t (zy_t (zy_t (zy_t (zy_t (zy_t (zy_t (zy_t (zy_t (zy_t (zy_t (zy_t (zy_t zy_h))))))))))))))))))))))) (zy_c (zy_t (zy_l (zy_l (zy_r (zy_r (zy_l (zy_t (zy_t (zy_t (zy_t (zy_t (zy_t (zy_t (zy_t (zy_t (zy_t (zy_t (zy_t (zy_t (zy_t (zy_t (zy_t (zy_t (zy_t zy_h)))))))))))))))))))))))) (zy_c (zy_t (zy_l (zy_l (zy_r (zy_r (zy_l (zy_t (zy_t (zy_t (zy_t (zy_t (zy_t (zy_t (zy_t (zy_t (zy_t (zy_t (zy_t (zy_t (zy_t (zy_t (zy_t (zy_t (zy_t (zy_t zy_h))))))))))))))))))))))))) (zy_c (zy_t (zy_l (zy_l (zy_r (zy_r (zy_l (zy_t (zy_t (zy_t (zy_t (zy_t (zy_t (zy_t (zy_t (zy_t (zy_t (zy_t (zy_t (zy_t (zy_t (zy_t (zy_t (zy_t (zy_t (zy_t (zy_t zy_h)))))))))))))))))))))))))) (zy_c (zy_t (zy_l (zy_l (zy_r (zy_r (zy_l (zy_t (zy_t (zy_t (zy_t (zy_t (zy_t (zy_t (zy_t (zy_t (zy_t (zy_t (zy_t (zy_t (zy_t (zy_t (zy_t (zy_t (zy_t (zy_t (zy_t (zy_t zy_h))))))))))))))))))))))))))) (zy_c (zy_t (zy_l (zy_l (zy_r (zy_r (zy_l (zy_t (zy_t (zy_t (zy_t (zy_t (zy_t (zy_t (zy_t (zy_t (zy_t (zy_t (zy_t (zy_t (zy_t (zy_t (zy_t (zy_t (zy_t (zy_t (zy_t (zy_t (zy_t zy_h)))))))))))))))))))))))))))) (zy_c (zy_t (zy_l (zy_l (zy_r (zy_r (zy_l (zy_t (zy_t (zy_t (zy_t (zy_t (zy_t (zy_t (zy_t (zy_t (zy_t (zy_t (zy_t (zy_t (zy_t (zy_t (zy_t (zy_t (zy_t (zy_t (zy_t (zy_t (zy_t (zy_t zy_h))))))))))))))))))))))))))))) (zy_c (zy_t (zy_l (zy_l (zy_r (zy_r (zy_r zy_h)))))) (zy_c (zy_t (zy_l (zy_l (zy_r (zy_r (zy_r (zy_t zy_h))))))) (zy_c (zy_t (zy_l (zy_l (zy_r (zy_r (zy_r (zy_t (zy_t zy_h)))))))) (zy_c (zy_t (zy_l (zy_l (zy_r (zy_r (zy_r (zy_t (zy_t (zy_t zy_h))))))))) (zy_c (zy_t (zy_l (zy_l (zy_r (zy_r (zy_r (zy_t (zy_t (zy_t (zy_t zy_h)))))))))) (zy_c (zy_t (zy_l (zy_l (zy_r (zy_r (zy_r (zy_t (zy_t (zy_t (zy_t (zy_t zy_h))))))))))) (zy_c (zy_t (zy_l (zy_l (zy_r (zy_r (zy_r (zy_t (zy_t (zy_t (zy_t (zy_t (zy_t zy_h)))))))))))) zy_n)))))))))))))))))))) (zy_p (fun _ h => (zy_t (zy_l (zy_r h)))))))) (by decide +kernel) | exact goodIn_r _ [83, 18, 84, 85, 86, 4, 87, 66, 67, 68, 69, 70, 71, 72, 73, 74, 75, 76, 77, 78, 79, 88, 89, 90, 91, 92, 93, 94, 95, 96] (by decide +kernel) (by decide +kernel)
set_option maxRecDepth 20000 in
theorem gX8_lookAt_X8_giveAllBack : GoodIn wsX8_lookAt (wsV RX8 63 RX8 yX8_giveAllBack wsX8_giveAllBack) := by first | exact goodIn_app (goodIn_sub (show zy_S _ wsX8_lookAt from (zy_c (zy_t (zy_l (zy_l (zy_r (zy_r (zy_r (zy_t (zy_t (zy_t (zy_t (zy_t (zy_t (zy_t zy_h))))))))))))) (zy_c (zy_t (zy_l (zy_l (zy_r (zy_r (zy_r (zy_t (zy_t (zy_t (zy_t (zy_t (zy_t (zy_t (zy_t zy_h)))))))))))))) (zy_c (zy_t (zy_l (zy_l (zy_r (zy_r (zy_r (zy_t (zy_t (zy_t (zy_t (zy_t (zy_t (zy_t (zy_t (zy_t zy_h))))))))))))))) (zy_c (zy_t (zy_l (zy_l (zy_l (zy_t (zy_t (zy_t zy_h))))))) zy_n))))) (by decide +kernel)) ggX8_lookAt_X8_giveAllBack | exact goodIn_app (goodIn_of _ (by decide +kernel)) ggX8_lookAt_X8_giveAllBack
theorem dX8_lookAt_0 : decode cX8_lookAt 0 = .ok (.iload_n 1, 1) := by decide +kernel
theorem dX8_lookAt_1 : decode cX8_lookAt 1 = .ok (.sipush 16383, 3) := by decide +kernel
theorem dX8_lookAt_4 : decode cX8_lookAt 4 = .ok (.iand, 1) := by decide +kernel
theorem dX8_lookAt_5 : decode cX8_lookAt 5 = .ok (.istore_n 2, 1) := by decide +kernel
theorem dX8_lookAt_6 : decode cX8_lookAt 6 = .ok (.iload_n 1, 1) := by decide +kernel
theorem dX8_lookAt_7 : decode cX8_lookAt 7 = .ok (.bipush 14, 2) := by decide +kernel
theorem dX8_lookAt_9 : decode cX8_lookAt 9 = .ok (.iushr, 1) := by decide +kernel
theorem dX8_lookAt_10 : decode cX8_lookAt 10 = .ok (.sipush 16383, 3) := by decide +kernel
theorem dX8_lookAt_13 : decode cX8_lookAt 13 = .ok (.iand, 1) := by decide +kernel
theorem dX8_lookAt_14 : decode cX8_lookAt 14 = .ok (.istore_n 3, 1) := by decide +kernel
theorem dX8_lookAt_15 : decode cX8_lookAt 15 = .ok (.iload_n 1, 1) := by decide +kernel
theorem dX8_lookAt_16 : decode cX8_lookAt 16 = .ok (.bipush 28, 2) := by decide +kernel
theorem dX8_lookAt_18 : decode cX8_lookAt 18 = .ok (.iushr, 1) := by decide +kernel
theorem dX8_lookAt_19 : decode cX8_lookAt 19 = .ok (.istore 4, 2) := by decide +kernel
theorem dX8_lookAt_21 : decode cX8_lookAt 21 = .ok (.aload_n 0, 1) := by decide +kernel
theorem dX8_lookAt_22 : decode cX8_lookAt 22 = .ok (.iload_n 2, 1) := by decide +kernel
theorem dX8_lookAt_23 : decode cX8_lookAt 23 = .ok (.iload_n 3, 1) := by decide +kernel
theorem dX8_lookAt_24 : decode cX8_lookAt 24 = .ok (.iload 4, 2) := by decide +kernel
theorem dX8_lookAt_26 : decode cX8_lookAt 26 = .ok (.invokevirtual 59, 3) := by decide +kernel
theorem dX8_lookAt_29 : decode cX8_lookAt 29 = .ok (.istore 5, 2) := by decide +kernel
theorem dX8_lookAt_31 : decode cX8_lookAt 31 = .ok (.iload 5, 2) := by decide +kernel
theorem dX8_lookAt_33 : decode cX8_lookAt 33 = .ok (.ifCond .ne 14, 3) := by decide +kernel
theorem dX8_lookAt_36 : decode cX8_lookAt 36 = .ok (.aload_n 0, 1) := by decide +kernel
theorem dX8_lookAt_37 : decode cX8_lookAt 37 = .ok (.iload_n 2, 1) := by decide +kernel
theorem dX8_lookAt_38 : decode cX8_lookAt 38 = .ok (.iload_n 3, 1) := by decide +kernel
theorem dX8_lookAt_39 : decode cX8_lookAt 39 = .ok (.iload 4, 2) := by decide +kernel
theorem dX8_lookAt_41 : decode cX8_lookAt 41 = .ok (.invokevirtual 63, 3) := by decide +kernel
theorem dX8_lookAt_44 : decode cX8_lookAt 44 = .ok (.goto 5, 3) := by decide +kernel
theorem dX8_lookAt_47 : decode cX8_lookAt 47 = .ok (.iload 5, 2) := by decide +kernel
theorem dX8_lookAt_49 : decode cX8_lookAt 49 = .ok (.ireturn, 1) := by decide +kernel
set_option maxRecDepth 20000 in
theorem ggX8_askAll_X8_listRuns : GoodIn wsX8_askAll wsX8_listRuns := by first | exact goodIn_sub (show zy_S _ wsX8_askAll from (zy_c (zy_t (zy_l (zy_l (zy_l (zy_t (zy_t (zy_t (zy_t (zy_t (zy_t (zy_t (zy_t (zy_t (zy_t (zy_t (zy_t zy_h)))))))))))))))) (zy_a (zy_a (zy_c (zy_t (zy_l (zy_l (zy_l (zy_t (zy_t (zy_t (zy_t (zy_t (zy_t zy_h)))))))))) (zy_c (zy_t (zy_l (zy_l (zy_l (zy_t (zy_t (zy_t (zy_t (zy_t (zy_t (zy_t (zy_t (zy_t (zy_t (zy_t (zy_t (zy_t zy_h))))))))))))))))) (zy_c (zy_t (zy_l (zy_l (zy_l (zy_t (zy_t (zy_t (zy_t (zy_t (zy_t (zy_t (zy_t (zy_t (zy_t (zy_t (zy_t (zy_t (zy_t zy_h)))))))))))))))))) (zy_c (zy_t (zy_l (zy_l (zy_l (zy_t (zy_t (zy_t (zy_t (zy_t (zy_t (zy_t (zy_t (zy_t (zy_t (zy_t (zy_t (zy_t (zy_t (zy_t zy_h))))))))))))))))))) (zy_c (zy_t (zy_l (zy_l (zy_l (zy_t (zy_t (zy_t (zy_t (zy_t (zy_t (zy_t (zy_t (zy_t (zy_t (zy_t (zy_t (zy_t (zy_t (zy_t (zy_t zy_h)))))))))))))))))))) (zy_c (zy_t (zy_l (zy_l (zy_l (zy_t (zy_t (zy_t (zy_t (zy_t (zy_t (zy_t (zy_t (zy_t (zy_t (zy_t (zy_t (zy_t (zy_t (zy_t (zy_t (zy_t zy_h))))))))))))))))))))) (zy_c (zy_t (zy_l (zy_l (zy_l (zy_t (zy_t (zy_t (zy_t (zy_t (zy_t (zy_t (zy_t (zy_t (zy_t (zy_t (zy_t (zy_t (zy_t (zy_t (zy_t (zy_t (zy_t zy_h)))))))))))))))))))))) (zy_c (zy_t (zy_l (zy_l (zy_l (zy_t (zy_t (zy_t (zy_t (zy_t (zy_t (zy_t (zy_t (zy_t (zy_t (zy_t (zy_t (zy_t (zy_t (zy_t (zy_t (zy_t (zy_t (zy_t zy_h))))))))))))))))))))))) (zy_c (zy_t (zy_l (zy_l (zy_l (zy_t (zy_t (zy_t (zy_t (zy_t (zy_t (zy_t (zy_t (zy_t (zy_t (zy_t (zy_t (zy_t (zy_t (zy_t (zy_t (zy_t (zy_t (zy_t (zy_t zy_h)))))))))))))))))))))))) (zy_c (zy_t (zy_l (zy_l (zy_l (zy_t (zy_t (zy_t (zy_t (zy_t (zy_t (zy_t (zy_t (zy_t (zy_t (zy_t (zy_t (zy_t (zy_t (zy_t (zy_t (zy_t (zy_t (zy_t (zy_t (zy_t zy_h))))))))))))))))))))))))) (zy_c (zy_t (zy_l (zy_l (zy_l (zy_t (zy_t (zy_t (zy_t (zy_t (zy_t (zy_t (zy_t (zy_t (zy_t (zy_t (zy_t (zy_t (zy_t (zy_t (zy_t (zy_t (zy_t (zy_t (zy_t (zy_t (zy_t zy_h)))))))))))))))))))))))))) (zy_c (zy_t (zy_l (zy_l (zy_l (zy_t (zy_t (zy_t (zy_t (zy_t (zy_t (zy_t (zy_t (zy_t (zy_t (zy_t (zy_t (zy_t (zy_t (zy_t (zy_t (zy_t (zy_t (zy_t (zy_t (zy_t (zy_t (zy_t zy_h))))))))))))))))))))))))))) (zy_c (zy_t (zy_l (zy_l (zy_r (zy_l zy_h))))) (zy_c (zy_t (zy_l (zy_l (zy_r (zy_l (zy_t zy_h)))))) zy_n)))))))))))))) (zy_p (fun _ h => (zy_t (zy_l (zy_r h)))))) (zy_p (fun _ h => (zy_t (zy_r h))))))) (by decide +kernel) | exact goodIn_r _ [13, 7, 14, 15, 16, 17, 18, 19, 20, 21, 22, 23, 24, 25, 26, 76, 77, 78, 79, 80, 81, 82, 83, 84, 85, 86, 87, 88] (by decide +kernel) (by decide +kernel)
set_option maxRecDepth 20000 in
theorem gX8_askAll_X8_listRuns : GoodIn wsX8_askAll (wsV RX8 66 RX8 yX8_listRuns wsX8_listRuns) := by first | exact goodIn_app (goodIn_sub (show zy_S _ wsX8_askAll from (zy_c (zy_t (zy_l (zy_l (zy_l (zy_t (zy_t (zy_t (zy_t (zy_t (zy_t (zy_t (zy_t zy_h)))))))))))) (zy_c (zy_t (zy_l (zy_l (zy_l (zy_t (zy_t (zy_t (zy_t (zy_t (zy_t (zy_t (zy_t (zy_t zy_h))))))))))))) (zy_c (zy_t (zy_l (zy_l (zy_l (zy_t (zy_t (zy_t (zy_t (zy_t (zy_t (zy_t (zy_t (zy_t (zy_t zy_h)))))))))))))) (zy_c (zy_t (zy_l (zy_l (zy_l (zy_t (zy_t (zy_t (zy_t (zy_t (zy_t (zy_t (zy_t (zy_t (zy_t (zy_t zy_h))))))))))))))) zy_n))))) (by decide +kernel)) ggX8_askAll_X8_listRuns | exact goodIn_app (goodIn_of _ (by decide +kernel)) ggX8_askAll_X8_listRuns
set_option maxRecDepth 20000 in
theorem ggX8_askAll_J6_bitCount_0f7a4 : GoodIn wsX8_askAll wsJ6_bitCount_0f7a4 := by first | exact goodIn_sub (show zy_S _ wsX8_askAll from (zy_c (zy_t (zy_l (zy_l (zy_r (zy_l (zy_t (zy_t (zy_t (zy_t (zy_t zy_h)))))))))) (zy_c (zy_t (zy_l (zy_l (zy_r (zy_l (zy_t (zy_t (zy_t (zy_t (zy_t (zy_t zy_h))))))))))) (zy_c (zy_t (zy_l (zy_l (zy_r (zy_l (zy_t (zy_t (zy_t (zy_t (zy_t (zy_t (zy_t zy_h)))))))))))) (zy_c (zy_t (zy_l (zy_l (zy_r (zy_l (zy_t (zy_t (zy_t (zy_t (zy_t (zy_t (zy_t (zy_t zy_h))))))))))))) zy_n))))) (by decide +kernel) | exact goodIn_r _ [30, 31, 32, 33] (by decide +kernel) (by decide +kernel)
set_option maxRecDepth 20000 in
theorem gX8_askAll_J6_bitCount_0f7a4 : GoodIn wsX8_askAll (va_wsS RX8 69 yJ6_bitCount_0f7a4 wsJ6_bitCount_0f7a4) := by first | exact goodIn_app (goodIn_sub (show zy_S _ wsX8_askAll from (zy_c (zy_t (zy_l (zy_l (zy_r (zy_l (zy_t (zy_t zy_h))))))) (zy_c (zy_t (zy_l (zy_l (zy_r (zy_l (zy_t (zy_t (zy_t zy_h)))))))) (zy_c (zy_t (zy_l (zy_l (zy_r (zy_l (zy_t (zy_t (zy_t (zy_t zy_h))))))))) zy_n)))) (by decide +kernel)) ggX8_askAll_J6_bitCount_0f7a4 | exact goodIn_app (goodIn_of _ (by decide +kernel)) ggX8_askAll_J6_bitCount_0f7a4
set_option maxRecDepth 20000 in
theorem ggX8_askAll_X10_find : GoodIn wsX8_askAll wsX10_find := by first | exact goodIn_sub (show zy_S _ wsX8_askAll from (zy_c (zy_t (zy_l (zy_l (zy_r (zy_l (zy_t (zy_t (zy_t (zy_t (zy_t (zy_t (zy_t (zy_t (zy_t (zy_t (zy_t (zy_t zy_h))))))))))))))))) (zy_a (zy_a (zy_c (zy_t (zy_l (zy_l (zy_r (zy_l (zy_t (zy_t (zy_t (zy_t (zy_t (zy_t (zy_t (zy_t (zy_t (zy_t (zy_t (zy_t (zy_t zy_h)))))))))))))))))) (zy_c (zy_t (zy_l (zy_l (zy_r (zy_l (zy_t (zy_t (zy_t (zy_t (zy_t (zy_t (zy_t (zy_t (zy_t (zy_t (zy_t (zy_t (zy_t (zy_t zy_h))))))))))))))))))) (zy_c (zy_t (zy_l (zy_l (zy_r (zy_l (zy_t (zy_t (zy_t (zy_t (zy_t (zy_t (zy_t (zy_t (zy_t (zy_t (zy_t (zy_t (zy_t (zy_t (zy_t zy_h)))))))))))))))))))) (zy_c (zy_t (zy_l (zy_l (zy_r (zy_l (zy_t (zy_t (zy_t (zy_t (zy_t (zy_t (zy_t (zy_t (zy_t (zy_t (zy_t (zy_t (zy_t (zy_t (zy_t (zy_t zy_h))))))))))))))))))))) (zy_c (zy_t (zy_l (zy_l (zy_l (zy_t (zy_t (zy_t (zy_t (zy_t (zy_t (zy_t (zy_t (zy_t (zy_t (zy_t (zy_t (zy_t (zy_t (zy_t (zy_t (zy_t zy_h))))))))))))))))))))) (zy_c (zy_t (zy_l (zy_l (zy_r (zy_l (zy_t (zy_t (zy_t (zy_t (zy_t (zy_t (zy_t (zy_t (zy_t (zy_t (zy_t (zy_t (zy_t (zy_t (zy_t (zy_t (zy_t zy_h)))))))))))))))))))))) (zy_c (zy_t (zy_l (zy_l (zy_l (zy_t (zy_t (zy_t (zy_t (zy_t (zy_t (zy_t (zy_t (zy_t (zy_t (zy_t (zy_t (zy_t (zy_t (zy_t (zy_t (zy_t (zy_t (zy_t zy_h))))))))))))))))))))))) (zy_c (zy_t (zy_l (zy_l (zy_r (zy_l zy_h))))) (zy_c (zy_t (zy_l (zy_l (zy_r (zy_l (zy_t (zy_t (zy_t (zy_t (zy_t (zy_t (zy_t (zy_t (zy_t (zy_t (zy_t (zy_t (zy_t (zy_t (zy_t (zy_t (zy_t (zy_t zy_h))))))))))))))))))))))) (zy_c (zy_t (zy_l (zy_l (zy_r (zy_l (zy_t (zy_t (zy_t (zy_t (zy_t (zy_t (zy_t (zy_t (zy_t (zy_t (zy_t (zy_t (zy_t (zy_t (zy_t (zy_t (zy_t (zy_t (zy_t zy_h)))))))))))))))))))))))) (zy_c (zy_t (zy_l (zy_l (zy_l (zy_t (zy_t (zy_t (zy_t zy_h)))))))) (zy_c (zy_t (zy_l (zy_l (zy_r (zy_l (zy_t (zy_t (zy_t (zy_t (zy_t (zy_t (zy_t (zy_t (zy_t (zy_t (zy_t (zy_t (zy_t (zy_t (zy_t (zy_t (zy_t (zy_t (zy_t (zy_t zy_h))))))))))))))))))))))))) (zy_c (zy_t (zy_l (zy_l (zy_r (zy_l (zy_t zy_h)))))) (zy_c (zy_t (zy_l (zy_l (zy_r (zy_l (zy_t (zy_t (zy_t (zy_t (zy_t (zy_t (zy_t (zy_t (zy_t (zy_t (zy_t (zy_t (zy_t (zy_t (zy_t (zy_t (zy_t (zy_t (zy_t (zy_t (zy_t zy_h)))))))))))))))))))))))))) (zy_c (zy_t (zy_l (zy_l (zy_r (zy_l (zy_t (zy_t (zy_t (zy_t (zy_t (zy_t (zy_t (zy_t (zy_t (zy_t (zy_t (zy_t (zy_t (zy_t (zy_t (zy_t (zy_t (zy_t (zy_t (zy_t (zy_t (zy_t zy_h))))))))))))))))))))))))))) (zy_c (zy_t (zy_l (zy_l (zy_r (zy_l (zy_t (zy_t (zy_t (zy_t (zy_t (zy_t (zy_t (zy_t (zy_t (zy_t (zy_t (zy_t (zy_t (zy_t (zy_t (zy_t (zy_t (zy_t (zy_t (zy_t (zy_t (zy_t (zy_t zy_h)))))))))))))))))))))))))))) (zy_c (zy_t (zy_l (zy_l (zy_r (zy_r (zy_l zy_h)))))) (zy_c (zy_t (zy_l (zy_l (zy_r (zy_r (zy_l (zy_t zy_h))))))) (zy_c (zy_t (zy_l (zy_l (zy_r (zy_r (zy_l (zy_t (zy_t zy_h)))))))) (zy_c (zy_t (zy_l (zy_l (zy_r (zy_r (zy_l (zy_t (zy_t (zy_t zy_h))))))))) (zy_c (zy_t (zy_l (zy_l (zy_r (zy_r (zy_l (zy_t (zy_t (zy_t (zy_t zy_h)))))))))) (zy_c (zy_t (zy_l (zy_l (zy_r (zy_r (zy_l (zy_t (zy_t (zy_t (zy_t (zy_t zy_h))))))))))) (zy_c (zy_t (zy_l (zy_l (zy_r (zy_r (zy_l (zy_t (zy_t (zy_t (zy_t (zy_t (zy_t zy_h)))))))))))) (zy_c (zy_t (zy_l (zy_l (zy_r (zy_r (zy_l (zy_t (zy_t (zy_t (zy_t (zy_t (zy_t (zy_t zy_h))))))))))))) zy_n)))))))))))))))))))))))) (zy_c (zy_t (zy_l (zy_l (zy_r (zy_r (zy_l (zy_t (zy_t (zy_t (zy_t (zy_t (zy_t (zy_t (zy_t zy_h)))))))))))))) (zy_c (zy_t (zy_l (zy_l (zy_r (zy_r (zy_l (zy_t (zy_t (zy_t (zy_t (zy_t (zy_t (zy_t (zy_t (zy_t zy_h))))))))))))))) (zy_c (zy_t (zy_l (zy_l (zy_r (zy_r (zy_l (zy_t (zy_t (zy_t (zy_t (zy_t (zy_t (zy_t (zy_t (zy_t (zy_t zy_h)))))))))))))))) (zy_c (zy_t (zy_l (zy_l (zy_r (zy_r (zy_l (zy_t (zy_t (zy_t (zy_t (zy_t (zy_t (zy_t (zy_t (zy_t (zy_t (zy_t zy_h))))))))))))))))) (zy_c (zy_t (zy_l (zy_l (zy_r (zy_r (zy_l (zy_t (zy_t (zy_t (zy_t (zy_t (zy_t (zy_t (zy_t (zy_t (zy_t (zy_t (zy_t zy_h)))))))))))))))))) zy_n)))))) (zy_p (fun _ h => (zy_t (zy_r h))))))) (by decide +kernel) | exact goodIn_r _ [37, 38, 39, 40, 41, 18, 42, 20, 25, 43, 44, 5, 45, 26, 46, 47, 48, 49, 50, 51, 52, 53, 54, 55, 56, 57, 58, 59, 60, 61, 85, 86, 87, 88] (by decide +kernel) (by decide +kernel)
set_option maxRecDepth 20000 in
theorem gX8_askAll_X10_find : GoodIn wsX8_askAll (wsV RX8 80 RX10 yX10_find wsX10_find) := by first | exact goodIn_app (goodIn_sub (show zy_S _ wsX8_askAll from (zy_c (zy_t (zy_l (zy_l (zy_r (zy_l (zy_t (zy_t (zy_t (zy_t (zy_t (zy_t (zy_t (zy_t (zy_t zy_h)))))))))))))) (zy_c (zy_t (zy_l (zy_l (zy_r (zy_l (zy_t (zy_t (zy_t (zy_t (zy_t (zy_t (zy_t (zy_t (zy_t (zy_t zy_h))))))))))))))) (zy_c (zy_t (zy_l (zy_l (zy_r (zy_l (zy_t (zy_t (zy_t (zy_t (zy_t (zy_t (zy_t (zy_t (zy_t (zy_t (zy_t zy_h)))))))))))))))) (zy_c (zy_t (zy_l (zy_l (zy_l (zy_t (zy_t (zy_t (zy_t (zy_t (zy_t (zy_t (zy_t (zy_t (zy_t (zy_t (zy_t (zy_t (zy_t (zy_t (zy_t (zy_t zy_h))))))))))))))))))))) zy_n))))) (by decide +kernel)) ggX8_askAll_X10_find | exact goodIn_app (goodIn_of _ (by decide +kernel)) ggX8_askAll_X10_find
set_option maxRecDepth 20000 in
theorem ggX8_askAll_X8_meet : GoodIn wsX8_askAll wsX8_meet := by first | exact goodIn_sub (show zy_S _ wsX8_askAll from (zy_c (zy_t (zy_l (zy_l (zy_r (zy_r (zy_l (zy_t (zy_t (zy_t (zy_t (zy_t (zy_t (zy_t (zy_t (zy_t (zy_t (zy_t (zy_t (zy_t (zy_t (zy_t (zy_t zy_h)))))))))))))))))))))) (zy_a (zy_c (zy_t (zy_l (zy_l (zy_r (zy_r (zy_l (zy_t (zy_t (zy_t (zy_t (zy_t (zy_t (zy_t (zy_t (zy_t (zy_t (zy_t (zy_t (zy_t (zy_t (zy_t (zy_t (zy_t zy_h))))))))))))))))))))))) (zy_c (zy_t (zy_l (zy_l (zy_r (zy_r (zy_l (zy_t (zy_t (zy_t (zy_t (zy_t (zy_t (zy_t (zy_t (zy_t (zy_t (zy_t (zy_t (zy_t (zy_t (zy_t (zy_t (zy_t (zy_t zy_h)))))))))))))))))))))))) (zy_c (zy_t (zy_l (zy_l (zy_r (zy_r (zy_l (zy_t (zy_t (zy_t (zy_t (zy_t (zy_t (zy_t (zy_t (zy_t (zy_t (zy_t (zy_t (zy_t (zy_t (zy_t (zy_t (zy_t (zy_t (zy_t zy_h))))))))))))))))))))))))) (zy_c (zy_t (zy_l (zy_l (zy_r (zy_r (zy_l (zy_t (zy_t (zy_t (zy_t (zy_t (zy_t (zy_t (zy_t (zy_t (zy_t (zy_t (zy_t (zy_t (zy_t (zy_t (zy_t (zy_t (zy_t (zy_t (zy_t zy_h)))))))))))))))))))))))))) (zy_c (zy_t (zy_l (zy_l (zy_r (zy_r (zy_l (zy_t (zy_t (zy_t (zy_t (zy_t (zy_t (zy_t (zy_t (zy_t (zy_t (zy_t (zy_t (zy_t (zy_t (zy_t (zy_t (zy_t (zy_t (zy_t (zy_t (zy_t zy_h))))))))))))))))))))))))))) (zy_c (zy_t (zy_l (zy_l (zy_r (zy_r (zy_l (zy_t (zy_t (zy_t (zy_t (zy_t (zy_t (zy_t (zy_t (zy_t (zy_t (zy_t (zy_t (zy_t (zy_t (zy_t (zy_t (zy_t (zy_t (zy_t (zy_t (zy_t (zy_t zy_h)))))))))))))))))))))))))))) (zy_c (zy_t (zy_l (zy_l (zy_r (zy_r (zy_l (zy_t (zy_t (zy_t (zy_t (zy_t (zy_t (zy_t (zy_t (zy_t (zy_t (zy_t (zy_t (zy_t (zy_t (zy_t (zy_t (zy_t (zy_t (zy_t (zy_t (zy_t (zy_t (zy_t zy_h))))))))))))))))))))))))))))) (zy_c (zy_t (zy_l (zy_l (zy_r (zy_r (zy_r zy_h)))))) (zy_c (zy_t (zy_l (zy_l (zy_r (zy_r (zy_r (zy_t zy_h))))))) (zy_c (zy_t (zy_l (zy_l (zy_l (zy_t (zy_t (zy_t (zy_t (zy_t (zy_t (zy_t (zy_t (zy_t (zy_t (zy_t zy_h))))))))))))))) (zy_c (zy_t (zy_l (zy_l (zy_r (zy_r (zy_r (zy_t (zy_t zy_h)))))))) zy_n))))))))))) (zy_p (fun _ h => (zy_t (zy_l (zy_r h)))))))) (by decide +kernel) | exact goodIn_r _ [65, 66, 67, 68, 69, 70, 71, 72, 73, 74, 12, 75, 76, 77, 78, 79, 80, 81, 82, 83, 84] (by decide +kernel) (by decide +kernel)
set_option maxRecDepth 20000 in
theorem gX8_askAll_X8_meet : GoodIn wsX8_askAll (wsV RX8 51 RX8 yX8_meet wsX8_meet) := by first | exact goodIn_app (goodIn_sub (show zy_S _ wsX8_askAll from (zy_c (zy_t (zy_l (zy_l (zy_r (zy_r (zy_l (zy_t (zy_t (zy_t (zy_t (zy_t (zy_t (zy_t (zy_t (zy_t (zy_t (zy_t (zy_t (zy_t zy_h))))))))))))))))))) (zy_c (zy_t (zy_l (zy_l (zy_r (zy_r (zy_l (zy_t (zy_t (zy_t (zy_t (zy_t (zy_t (zy_t (zy_t (zy_t (zy_t (zy_t (zy_t (zy_t (zy_t zy_h)))))))))))))))))))) (zy_c (zy_t (zy_l (zy_l (zy_r (zy_r (zy_l (zy_t (zy_t (zy_t (zy_t (zy_t (zy_t (zy_t (zy_t (zy_t (zy_t (zy_t (zy_t (zy_t (zy_t (zy_t zy_h))))))))))))))))))))) (zy_c (zy_t (zy_l (zy_l (zy_l (zy_t (zy_t (zy_t (zy_t (zy_t (zy_t (zy_t (zy_t (zy_t (zy_t (zy_t zy_h))))))))))))))) zy_n))))) (by decide +kernel)) ggX8_askAll_X8_meet | exact goodIn_app (goodIn_of _ (by decide +kernel)) ggX8_askAll_X8_meet
theorem dX8_askAll_0 : decode cX8_askAll 0 = .ok (.aload_n 0, 1) := by decide +kernel
theorem dX8_askAll_1 : decode cX8_askAll 1 = .ok (.iload_n 1, 1) := by decide +kernel
theorem dX8_askAll_2 : decode cX8_askAll 2 = .ok (.invokevirtual 66, 3) := by decide +kernel
theorem dX8_askAll_5 : decode cX8_askAll 5 = .ok (.aload_n 0, 1) := by decide +kernel
theorem dX8_askAll_6 : decode cX8_askAll 6 = .ok (.getfield 38, 3) := by decide +kernel
theorem dX8_askAll_9 : decode cX8_askAll 9 = .ok (.aload_n 0, 1) := by decide +kernel
theorem dX8_askAll_10 : decode cX8_askAll 10 = .ok (.getfield 41, 3) := by decide +kernel
theorem dX8_askAll_13 : decode cX8_askAll 13 = .ok (.iload_n 1, 1) := by decide +kernel
theorem dX8_askAll_14 : decode cX8_askAll 14 = .ok (.invokestatic 69, 3) := by decide +kernel
theorem dX8_askAll_17 : decode cX8_askAll 17 = .ok (.isub, 1) := by decide +kernel
theorem dX8_askAll_18 : decode cX8_askAll 18 = .ok (.invokestatic 74, 3) := by decide +kernel
theorem dX8_askAll_21 : decode cX8_askAll 21 = .ok (.istore 4, 2) := by decide +kernel
theorem dX8_askAll_23 : decode cX8_askAll 23 = .ok (.iconst 1, 1) := by decide +kernel
theorem dX8_askAll_24 : decode cX8_askAll 24 = .ok (.istore 5, 2) := by decide +kernel
theorem dX8_askAll_26 : decode cX8_askAll 26 = .ok (.iload 5, 2) := by decide +kernel
theorem dX8_askAll_28 : decode cX8_askAll 28 = .ok (.iload 4, 2) := by decide +kernel
theorem dX8_askAll_30 : decode cX8_askAll 30 = .ok (.if_icmp .gt 84, 3) := by decide +kernel
theorem dX8_askAll_33 : decode cX8_askAll 33 = .ok (.aload_n 0, 1) := by decide +kernel
theorem dX8_askAll_34 : decode cX8_askAll 34 = .ok (.getfield 24, 3) := by decide +kernel
theorem dX8_askAll_37 : decode cX8_askAll 37 = .ok (.aload_n 0, 1) := by decide +kernel
theorem dX8_askAll_38 : decode cX8_askAll 38 = .ok (.getfield 35, 3) := by decide +kernel
theorem dX8_askAll_41 : decode cX8_askAll 41 = .ok (.iload 5, 2) := by decide +kernel
theorem dX8_askAll_43 : decode cX8_askAll 43 = .ok (.iload_n 3, 1) := by decide +kernel
theorem dX8_askAll_44 : decode cX8_askAll 44 = .ok (.invokevirtual 80, 3) := by decide +kernel
theorem dX8_askAll_47 : decode cX8_askAll 47 = .ok (.istore 6, 2) := by decide +kernel
theorem dX8_askAll_49 : decode cX8_askAll 49 = .ok (.iload 6, 2) := by decide +kernel
theorem dX8_askAll_51 : decode cX8_askAll 51 = .ok (.iconst (-1), 1) := by decide +kernel
theorem dX8_askAll_52 : decode cX8_askAll 52 = .ok (.if_icmp .ne 5, 3) := by decide +kernel
theorem dX8_askAll_55 : decode cX8_askAll 55 = .ok (.iconst 1, 1) := by decide +kernel
theorem dX8_askAll_56 : decode cX8_askAll 56 = .ok (.ireturn, 1) := by decide +kernel
theorem dX8_askAll_57 : decode cX8_askAll 57 = .ok (.iconst 1, 1) := by decide +kernel
theorem dX8_askAll_58 : decode cX8_askAll 58 = .ok (.iload 5, 2) := by decide +kernel
theorem dX8_askAll_60 : decode cX8_askAll 60 = .ok (.ishl, 1) := by decide +kernel
theorem dX8_askAll_61 : decode cX8_askAll 61 = .ok (.iconst 1, 1) := by decide +kernel
theorem dX8_askAll_62 : decode cX8_askAll 62 = .ok (.isub, 1) := by decide +kernel
theorem dX8_askAll_63 : decode cX8_askAll 63 = .ok (.iload 6, 2) := by decide +kernel
theorem dX8_askAll_65 : decode cX8_askAll 65 = .ok (.ishl, 1) := by decide +kernel
theorem dX8_askAll_66 : decode cX8_askAll 66 = .ok (.istore 7, 2) := by decide +kernel
theorem dX8_askAll_68 : decode cX8_askAll 68 = .ok (.aload_n 0, 1) := by decide +kernel
theorem dX8_askAll_69 : decode cX8_askAll 69 = .ok (.getfield 35, 3) := by decide +kernel
theorem dX8_askAll_72 : decode cX8_askAll 72 = .ok (.iconst 1, 1) := by decide +kernel
theorem dX8_askAll_73 : decode cX8_askAll 73 = .ok (.if_icmp .ne 11, 3) := by decide +kernel
theorem dX8_askAll_76 : decode cX8_askAll 76 = .ok (.iload 6, 2) := by decide +kernel
theorem dX8_askAll_78 : decode cX8_askAll 78 = .ok (.iload 5, 2) := by decide +kernel
theorem dX8_askAll_80 : decode cX8_askAll 80 = .ok (.iadd, 1) := by decide +kernel
theorem dX8_askAll_81 : decode cX8_askAll 81 = .ok (.goto 4, 3) := by decide +kernel
theorem dX8_askAll_84 : decode cX8_askAll 84 = .ok (.iconst 0, 1) := by decide +kernel
theorem dX8_askAll_85 : decode cX8_askAll 85 = .ok (.istore 8, 2) := by decide +kernel
theorem dX8_askAll_87 : decode cX8_askAll 87 = .ok (.aload_n 0, 1) := by decide +kernel
theorem dX8_askAll_88 : decode cX8_askAll 88 = .ok (.iload_n 1, 1) := by decide +kernel
theorem dX8_askAll_89 : decode cX8_askAll 89 = .ok (.iload 7, 2) := by decide +kernel
theorem dX8_askAll_91 : decode cX8_askAll 91 = .ok (.ior, 1) := by decide +kernel
theorem dX8_askAll_92 : decode cX8_askAll 92 = .ok (.iload_n 2, 1) := by decide +kernel
theorem dX8_askAll_93 : decode cX8_askAll 93 = .ok (.iconst 1, 1) := by decide +kernel
theorem dX8_askAll_94 : decode cX8_askAll 94 = .ok (.iload 6, 2) := by decide +kernel
theorem dX8_askAll_96 : decode cX8_askAll 96 = .ok (.ishl, 1) := by decide +kernel
theorem dX8_askAll_97 : decode cX8_askAll 97 = .ok (.ior, 1) := by decide +kernel
theorem dX8_askAll_98 : decode cX8_askAll 98 = .ok (.iload 8, 2) := by decide +kernel
theorem dX8_askAll_100 : decode cX8_askAll 100 = .ok (.invokevirtual 51, 3) := by decide +kernel
theorem dX8_askAll_103 : decode cX8_askAll 103 = .ok (.ifCond .ne 5, 3) := by decide +kernel
theorem dX8_askAll_106 : decode cX8_askAll 106 = .ok (.iconst 2, 1) := by decide +kernel
theorem dX8_askAll_107 : decode cX8_askAll 107 = .ok (.ireturn, 1) := by decide +kernel
theorem dX8_askAll_108 : decode cX8_askAll 108 = .ok (.iinc 5 1, 3) := by decide +kernel
theorem dX8_askAll_111 : decode cX8_askAll 111 = .ok (.goto (-85), 3) := by decide +kernel
theorem dX8_askAll_114 : decode cX8_askAll 114 = .ok (.iconst 0, 1) := by decide +kernel
theorem dX8_askAll_115 : decode cX8_askAll 115 = .ok (.ireturn, 1) := by decide +kernel
set_option maxRecDepth 20000 in
theorem ggX8_giveAllBack_X8_blockFrom : GoodIn wsX8_giveAllBack wsX8_blockFrom := by first | exact goodIn_sub (show zy_S _ wsX8_giveAllBack from (zy_c (zy_t (zy_l (zy_t (zy_t (zy_t (zy_t (zy_t zy_h))))))) (zy_a (zy_c (zy_t (zy_l zy_h)) zy_n) (zy_p (fun _ h => (zy_t (zy_r h))))))) (by decide +kernel) | exact goodIn_r _ [6, 1, 21, 22, 23, 24, 25, 26, 27, 28, 29] (by decide +kernel) (by decide +kernel)
set_option maxRecDepth 20000 in
theorem gX8_giveAllBack_X8_blockFrom : GoodIn wsX8_giveAllBack (wsV RX8 83 RX8 yX8_blockFrom wsX8_blockFrom) := by first | exact goodIn_app (goodIn_sub (show zy_S _ wsX8_giveAllBack from (zy_c (zy_t (zy_l (zy_t zy_h))) (zy_c (zy_t (zy_l (zy_t (zy_t zy_h)))) (zy_c (zy_t (zy_l (zy_t (zy_t (zy_t zy_h))))) (zy_c (zy_t (zy_l (zy_t (zy_t (zy_t (zy_t zy_h)))))) zy_n))))) (by decide +kernel)) ggX8_giveAllBack_X8_blockFrom | exact goodIn_app (goodIn_of _ (by decide +kernel)) ggX8_giveAllBack_X8_blockFrom
set_option maxRecDepth 20000 in
theorem ggX8_giveAllBack_X8_meet : GoodIn wsX8_giveAllBack wsX8_meet := by first | exact goodIn_sub (show zy_S _ wsX8_giveAllBack from (zy_c (zy_t (zy_l (zy_t (zy_t (zy_t (zy_t (zy_t (zy_t (zy_t (zy_t (zy_t zy_h))))))))))) (zy_a (zy_c (zy_t (zy_l (zy_t (zy_t (zy_t (zy_t (zy_t (zy_t (zy_t (zy_t (zy_t (zy_t zy_h)))))))))))) (zy_c (zy_t (zy_l (zy_t (zy_t (zy_t (zy_t (zy_t (zy_t (zy_t (zy_t (zy_t (zy_t (zy_t zy_h))))))))))))) (zy_c (zy_t (zy_l (zy_t (zy_t (zy_t (zy_t (zy_t (zy_t (zy_t (zy_t (zy_t (zy_t (zy_t (zy_t zy_h)))))))))))))) (zy_c (zy_t (zy_l (zy_t (zy_t (zy_t (zy_t (zy_t (zy_t (zy_t (zy_t (zy_t (zy_t (zy_t (zy_t (zy_t zy_h))))))))))))))) (zy_c (zy_t (zy_l (zy_t (zy_t (zy_t (zy_t (zy_t (zy_t (zy_t (zy_t (zy_t (zy_t (zy_t (zy_t (zy_t (zy_t zy_h)))))))))))))))) (zy_c (zy_t (zy_l (zy_t (zy_t (zy_t (zy_t (zy_t (zy_t (zy_t (zy_t (zy_t (zy_t (zy_t (zy_t (zy_t (zy_t (zy_t zy_h))))))))))))))))) (zy_c (zy_t (zy_l (zy_t (zy_t (zy_t (zy_t (zy_t (zy_t (zy_t (zy_t (zy_t (zy_t (zy_t (zy_t (zy_t (zy_t (zy_t (zy_t zy_h)))))))))))))))))) (zy_c (zy_t (zy_l (zy_t (zy_t (zy_t (zy_t (zy_t (zy_t (zy_t (zy_t (zy_t (zy_t (zy_t (zy_t (zy_t (zy_t (zy_t (zy_t (zy_t zy_h))))))))))))))))))) (zy_c (zy_t (zy_l (zy_t (zy_t (zy_t (zy_t (zy_t (zy_t (zy_t (zy_t (zy_t (zy_t (zy_t (zy_t (zy_t (zy_t (zy_t (zy_t (zy_t (zy_t zy_h)))))))))))))))))))) (zy_c (zy_t (zy_l (zy_t (zy_t (zy_t (zy_t zy_h)))))) (zy_c (zy_t (zy_l (zy_t (zy_t (zy_t (zy_t (zy_t (zy_t (zy_t (zy_t (zy_t (zy_t (zy_t (zy_t (zy_t (zy_t (zy_t (zy_t (zy_t (zy_t (zy_t zy_h))))))))))))))))))))) zy_n))))))))))) (zy_p (fun _ h => (zy_t (zy_r h))))))) (by decide +kernel) | exact goodIn_r _ [10, 11, 12, 13, 14, 15, 16, 17, 18, 19, 5, 20, 21, 22, 23, 24, 25, 26, 27, 28, 29] (by decide +kernel) (by decide +kernel)
set_option maxRecDepth 20000 in
theorem gX8_giveAllBack_X8_meet : GoodIn wsX8_giveAllBack (wsV RX8 51 RX8 yX8_meet wsX8_meet) := by first | exact goodIn_app (goodIn_sub (show zy_S _ wsX8_giveAllBack from (zy_c (zy_t (zy_l (zy_t (zy_t (zy_t (zy_t (zy_t (zy_t zy_h)))))))) (zy_c (zy_t (zy_l (zy_t (zy_t (zy_t (zy_t (zy_t (zy_t (zy_t zy_h))))))))) (zy_c (zy_t (zy_l (zy_t (zy_t (zy_t (zy_t (zy_t (zy_t (zy_t (zy_t zy_h)))))))))) (zy_c (zy_t (zy_l (zy_t (zy_t (zy_t (zy_t zy_h)))))) zy_n))))) (by decide +kernel)) ggX8_giveAllBack_X8_meet | exact goodIn_app (goodIn_of _ (by decide +kernel)) ggX8_giveAllBack_X8_meet
theorem dX8_giveAllBack_0 : decode cX8_giveAllBack 0 = .ok (.iconst 0, 1) := by decide +kernel
theorem dX8_giveAllBack_1 : decode cX8_giveAllBack 1 = .ok (.istore 4, 2) := by decide +kernel
theorem dX8_giveAllBack_3 : decode cX8_giveAllBack 3 = .ok (.iload 4, 2) := by decide +kernel
theorem dX8_giveAllBack_5 : decode cX8_giveAllBack 5 = .ok (.aload_n 0, 1) := by decide +kernel
theorem dX8_giveAllBack_6 : decode cX8_giveAllBack 6 = .ok (.getfield 44, 3) := by decide +kernel
theorem dX8_giveAllBack_9 : decode cX8_giveAllBack 9 = .ok (.if_icmp .ge 53, 3) := by decide +kernel
theorem dX8_giveAllBack_12 : decode cX8_giveAllBack 12 = .ok (.iload_n 2, 1) := by decide +kernel
theorem dX8_giveAllBack_13 : decode cX8_giveAllBack 13 = .ok (.iload 4, 2) := by decide +kernel
theorem dX8_giveAllBack_15 : decode cX8_giveAllBack 15 = .ok (.iushr, 1) := by decide +kernel
theorem dX8_giveAllBack_16 : decode cX8_giveAllBack 16 = .ok (.iconst 1, 1) := by decide +kernel
theorem dX8_giveAllBack_17 : decode cX8_giveAllBack 17 = .ok (.iand, 1) := by decide +kernel
theorem dX8_giveAllBack_18 : decode cX8_giveAllBack 18 = .ok (.iconst 1, 1) := by decide +kernel
theorem dX8_giveAllBack_19 : decode cX8_giveAllBack 19 = .ok (.if_icmp .ne 37, 3) := by decide +kernel
theorem dX8_giveAllBack_22 : decode cX8_giveAllBack 22 = .ok (.aload_n 0, 1) := by decide +kernel
theorem dX8_giveAllBack_23 : decode cX8_giveAllBack 23 = .ok (.iload 4, 2) := by decide +kernel
theorem dX8_giveAllBack_25 : decode cX8_giveAllBack 25 = .ok (.iload_n 1, 1) := by decide +kernel
theorem dX8_giveAllBack_26 : decode cX8_giveAllBack 26 = .ok (.iload_n 2, 1) := by decide +kernel
theorem dX8_giveAllBack_27 : decode cX8_giveAllBack 27 = .ok (.invokevirtual 83, 3) := by decide +kernel
theorem dX8_giveAllBack_30 : decode cX8_giveAllBack 30 = .ok (.istore 5, 2) := by decide +kernel
theorem dX8_giveAllBack_32 : decode cX8_giveAllBack 32 = .ok (.aload_n 0, 1) := by decide +kernel
theorem dX8_giveAllBack_33 : decode cX8_giveAllBack 33 = .ok (.iload_n 1, 1) := by decide +kernel
theorem dX8_giveAllBack_34 : decode cX8_giveAllBack 34 = .ok (.iload 5, 2) := by decide +kernel
theorem dX8_giveAllBack_36 : decode cX8_giveAllBack 36 = .ok (.iconst (-1), 1) := by decide +kernel
theorem dX8_giveAllBack_37 : decode cX8_giveAllBack 37 = .ok (.ixor, 1) := by decide +kernel
theorem dX8_giveAllBack_38 : decode cX8_giveAllBack 38 = .ok (.iand, 1) := by decide +kernel
theorem dX8_giveAllBack_39 : decode cX8_giveAllBack 39 = .ok (.iload_n 2, 1) := by decide +kernel
theorem dX8_giveAllBack_40 : decode cX8_giveAllBack 40 = .ok (.iconst 1, 1) := by decide +kernel
theorem dX8_giveAllBack_41 : decode cX8_giveAllBack 41 = .ok (.iload 4, 2) := by decide +kernel
theorem dX8_giveAllBack_43 : decode cX8_giveAllBack 43 = .ok (.ishl, 1) := by decide +kernel
theorem dX8_giveAllBack_44 : decode cX8_giveAllBack 44 = .ok (.iconst (-1), 1) := by decide +kernel
theorem dX8_giveAllBack_45 : decode cX8_giveAllBack 45 = .ok (.ixor, 1) := by decide +kernel
theorem dX8_giveAllBack_46 : decode cX8_giveAllBack 46 = .ok (.iand, 1) := by decide +kernel
theorem dX8_giveAllBack_47 : decode cX8_giveAllBack 47 = .ok (.iload_n 3, 1) := by decide +kernel
theorem dX8_giveAllBack_48 : decode cX8_giveAllBack 48 = .ok (.invokevirtual 51, 3) := by decide +kernel
theorem dX8_giveAllBack_51 : decode cX8_giveAllBack 51 = .ok (.ifCond .ne 5, 3) := by decide +kernel
theorem dX8_giveAllBack_54 : decode cX8_giveAllBack 54 = .ok (.iconst 2, 1) := by decide +kernel
theorem dX8_giveAllBack_55 : decode cX8_giveAllBack 55 = .ok (.ireturn, 1) := by decide +kernel
theorem dX8_giveAllBack_56 : decode cX8_giveAllBack 56 = .ok (.iinc 4 1, 3) := by decide +kernel
theorem dX8_giveAllBack_59 : decode cX8_giveAllBack 59 = .ok (.goto (-56), 3) := by decide +kernel
theorem dX8_giveAllBack_62 : decode cX8_giveAllBack 62 = .ok (.iconst 0, 1) := by decide +kernel
theorem dX8_giveAllBack_63 : decode cX8_giveAllBack 63 = .ok (.ireturn, 1) := by decide +kernel
theorem dX8_blockFrom_0 : decode cX8_blockFrom 0 = .ok (.iload_n 2, 1) := by decide +kernel
theorem dX8_blockFrom_1 : decode cX8_blockFrom 1 = .ok (.iload_n 3, 1) := by decide +kernel
theorem dX8_blockFrom_2 : decode cX8_blockFrom 2 = .ok (.iconst (-1), 1) := by decide +kernel
theorem dX8_blockFrom_3 : decode cX8_blockFrom 3 = .ok (.ixor, 1) := by decide +kernel
theorem dX8_blockFrom_4 : decode cX8_blockFrom 4 = .ok (.iand, 1) := by decide +kernel
theorem dX8_blockFrom_5 : decode cX8_blockFrom 5 = .ok (.istore 4, 2) := by decide +kernel
theorem dX8_blockFrom_7 : decode cX8_blockFrom 7 = .ok (.iconst 1, 1) := by decide +kernel
theorem dX8_blockFrom_8 : decode cX8_blockFrom 8 = .ok (.iload_n 1, 1) := by decide +kernel
theorem dX8_blockFrom_9 : decode cX8_blockFrom 9 = .ok (.ishl, 1) := by decide +kernel
theorem dX8_blockFrom_10 : decode cX8_blockFrom 10 = .ok (.istore 5, 2) := by decide +kernel
theorem dX8_blockFrom_12 : decode cX8_blockFrom 12 = .ok (.iload_n 1, 1) := by decide +kernel
theorem dX8_blockFrom_13 : decode cX8_blockFrom 13 = .ok (.iconst 1, 1) := by decide +kernel
theorem dX8_blockFrom_14 : decode cX8_blockFrom 14 = .ok (.iadd, 1) := by decide +kernel
theorem dX8_blockFrom_15 : decode cX8_blockFrom 15 = .ok (.istore 6, 2) := by decide +kernel
theorem dX8_blockFrom_17 : decode cX8_blockFrom 17 = .ok (.iload 6, 2) := by decide +kernel
theorem dX8_blockFrom_19 : decode cX8_blockFrom 19 = .ok (.aload_n 0, 1) := by decide +kernel
theorem dX8_blockFrom_20 : decode cX8_blockFrom 20 = .ok (.getfield 44, 3) := by decide +kernel
theorem dX8_blockFrom_23 : decode cX8_blockFrom 23 = .ok (.if_icmp .ge 29, 3) := by decide +kernel
theorem dX8_blockFrom_26 : decode cX8_blockFrom 26 = .ok (.iload 4, 2) := by decide +kernel
theorem dX8_blockFrom_28 : decode cX8_blockFrom 28 = .ok (.iload 6, 2) := by decide +kernel
theorem dX8_blockFrom_30 : decode cX8_blockFrom 30 = .ok (.iushr, 1) := by decide +kernel
theorem dX8_blockFrom_31 : decode cX8_blockFrom 31 = .ok (.iconst 1, 1) := by decide +kernel
theorem dX8_blockFrom_32 : decode cX8_blockFrom 32 = .ok (.iand, 1) := by decide +kernel
theorem dX8_blockFrom_33 : decode cX8_blockFrom 33 = .ok (.iconst 1, 1) := by decide +kernel
theorem dX8_blockFrom_34 : decode cX8_blockFrom 34 = .ok (.if_icmp .ne 18, 3) := by decide +kernel
theorem dX8_blockFrom_37 : decode cX8_blockFrom 37 = .ok (.iload 5, 2) := by decide +kernel
theorem dX8_blockFrom_39 : decode cX8_blockFrom 39 = .ok (.iconst 1, 1) := by decide +kernel
theorem dX8_blockFrom_40 : decode cX8_blockFrom 40 = .ok (.iload 6, 2) := by decide +kernel
theorem dX8_blockFrom_42 : decode cX8_blockFrom 42 = .ok (.ishl, 1) := by decide +kernel
theorem dX8_blockFrom_43 : decode cX8_blockFrom 43 = .ok (.ior, 1) := by decide +kernel
theorem dX8_blockFrom_44 : decode cX8_blockFrom 44 = .ok (.istore 5, 2) := by decide +kernel
theorem dX8_blockFrom_46 : decode cX8_blockFrom 46 = .ok (.iinc 6 1, 3) := by decide +kernel
theorem dX8_blockFrom_49 : decode cX8_blockFrom 49 = .ok (.goto (-32), 3) := by decide +kernel
theorem dX8_blockFrom_52 : decode cX8_blockFrom 52 = .ok (.iload 5, 2) := by decide +kernel
theorem dX8_blockFrom_54 : decode cX8_blockFrom 54 = .ok (.ireturn, 1) := by decide +kernel
set_option maxRecDepth 20000 in
theorem ggX8_listRuns_X10_clear : GoodIn wsX8_listRuns wsX10_clear := by first | exact goodIn_sub (show zy_S _ wsX8_listRuns from (zy_c (zy_t (zy_l (zy_l (zy_t (zy_t (zy_t (zy_t (zy_t (zy_t zy_h))))))))) (zy_a (zy_c (zy_t (zy_l (zy_l (zy_t (zy_t (zy_t (zy_t (zy_t (zy_t (zy_t zy_h)))))))))) zy_n) (zy_p (fun _ h => (zy_t (zy_r h))))))) (by decide +kernel) | exact goodIn_r _ [7, 8, 24, 25, 26, 27] (by decide +kernel) (by decide +kernel)
set_option maxRecDepth 20000 in
theorem gX8_listRuns_X10_clear : GoodIn wsX8_listRuns (wsV RX8 86 RX10 yX10_clear wsX10_clear) := by first | exact goodIn_app (goodIn_sub (show zy_S _ wsX8_listRuns from (zy_c (zy_t (zy_l (zy_l (zy_t (zy_t zy_h))))) (zy_c (zy_t (zy_l (zy_l (zy_t (zy_t (zy_t zy_h)))))) (zy_c (zy_t (zy_l (zy_l (zy_t (zy_t (zy_t (zy_t zy_h))))))) (zy_c (zy_t (zy_l (zy_l (zy_t (zy_t (zy_t (zy_t (zy_t zy_h)))))))) zy_n))))) (by decide +kernel)) ggX8_listRuns_X10_clear | exact goodIn_app (goodIn_of _ (by decide +kernel)) ggX8_listRuns_X10_clear
set_option maxRecDepth 20000 in
theorem ggX8_listRuns_X10_add : GoodIn wsX8_listRuns wsX10_add := by first | exact goodIn_sub (show zy_S _ wsX8_listRuns from (zy_c (zy_t (zy_l (zy_l (zy_t (zy_t (zy_t (zy_t (zy_t (zy_t (zy_t (zy_t (zy_t (zy_t (zy_t zy_h)))))))))))))) (zy_a (zy_c (zy_t (zy_l (zy_l (zy_t (zy_t (zy_t (zy_t (zy_t (zy_t (zy_t zy_h)))))))))) (zy_c (zy_t (zy_l (zy_l (zy_t (zy_t (zy_t (zy_t (zy_t (zy_t (zy_t (zy_t (zy_t (zy_t (zy_t (zy_t zy_h))))))))))))))) (zy_c (zy_t (zy_l (zy_l (zy_t (zy_t (zy_t (zy_t (zy_t (zy_t (zy_t (zy_t (zy_t (zy_t (zy_t (zy_t (zy_t zy_h)))))))))))))))) zy_n))) (zy_p (fun _ h => (zy_t (zy_r h))))))) (by decide +kernel) | exact goodIn_r _ [12, 8, 13, 14, 24, 25, 26, 27] (by decide +kernel) (by decide +kernel)
set_option maxRecDepth 20000 in
theorem gX8_listRuns_X10_add : GoodIn wsX8_listRuns (wsV RX8 89 RX10 yX10_add wsX10_add) := by first | exact goodIn_app (goodIn_sub (show zy_S _ wsX8_listRuns from (zy_c (zy_t (zy_l (zy_l (zy_t (zy_t (zy_t (zy_t (zy_t (zy_t (zy_t (zy_t zy_h))))))))))) (zy_c (zy_t (zy_l (zy_l (zy_t (zy_t (zy_t (zy_t (zy_t (zy_t (zy_t (zy_t (zy_t zy_h)))))))))))) (zy_c (zy_t (zy_l (zy_l (zy_t (zy_t (zy_t (zy_t (zy_t (zy_t (zy_t (zy_t (zy_t (zy_t zy_h))))))))))))) (zy_c (zy_t (zy_l (zy_l (zy_t (zy_t (zy_t (zy_t (zy_t zy_h)))))))) zy_n))))) (by decide +kernel)) ggX8_listRuns_X10_add | exact goodIn_app (goodIn_of _ (by decide +kernel)) ggX8_listRuns_X10_add
theorem dX8_listRuns_0 : decode cX8_listRuns 0 = .ok (.aload_n 0, 1) := by decide +kernel
theorem dX8_listRuns_1 : decode cX8_listRuns 1 = .ok (.getfield 24, 3) := by decide +kernel
theorem dX8_listRuns_4 : decode cX8_listRuns 4 = .ok (.invokevirtual 86, 3) := by decide +kernel
theorem dX8_listRuns_7 : decode cX8_listRuns 7 = .ok (.iconst 0, 1) := by decide +kernel
theorem dX8_listRuns_8 : decode cX8_listRuns 8 = .ok (.istore_n 2, 1) := by decide +kernel
theorem dX8_listRuns_9 : decode cX8_listRuns 9 = .ok (.iconst 0, 1) := by decide +kernel
theorem dX8_listRuns_10 : decode cX8_listRuns 10 = .ok (.istore_n 3, 1) := by decide +kernel
theorem dX8_listRuns_11 : decode cX8_listRuns 11 = .ok (.iload_n 3, 1) := by decide +kernel
theorem dX8_listRuns_12 : decode cX8_listRuns 12 = .ok (.aload_n 0, 1) := by decide +kernel
theorem dX8_listRuns_13 : decode cX8_listRuns 13 = .ok (.getfield 44, 3) := by decide +kernel
theorem dX8_listRuns_16 : decode cX8_listRuns 16 = .ok (.if_icmp .gt 46, 3) := by decide +kernel
theorem dX8_listRuns_19 : decode cX8_listRuns 19 = .ok (.iload_n 3, 1) := by decide +kernel
theorem dX8_listRuns_20 : decode cX8_listRuns 20 = .ok (.aload_n 0, 1) := by decide +kernel
theorem dX8_listRuns_21 : decode cX8_listRuns 21 = .ok (.getfield 44, 3) := by decide +kernel
theorem dX8_listRuns_24 : decode cX8_listRuns 24 = .ok (.if_icmp .eq 12, 3) := by decide +kernel
theorem dX8_listRuns_27 : decode cX8_listRuns 27 = .ok (.iload_n 1, 1) := by decide +kernel
theorem dX8_listRuns_28 : decode cX8_listRuns 28 = .ok (.iload_n 3, 1) := by decide +kernel
theorem dX8_listRuns_29 : decode cX8_listRuns 29 = .ok (.iushr, 1) := by decide +kernel
theorem dX8_listRuns_30 : decode cX8_listRuns 30 = .ok (.iconst 1, 1) := by decide +kernel
theorem dX8_listRuns_31 : decode cX8_listRuns 31 = .ok (.iand, 1) := by decide +kernel
theorem dX8_listRuns_32 : decode cX8_listRuns 32 = .ok (.iconst 1, 1) := by decide +kernel
theorem dX8_listRuns_33 : decode cX8_listRuns 33 = .ok (.if_icmp .ne 23, 3) := by decide +kernel
theorem dX8_listRuns_36 : decode cX8_listRuns 36 = .ok (.iload_n 3, 1) := by decide +kernel
theorem dX8_listRuns_37 : decode cX8_listRuns 37 = .ok (.iload_n 2, 1) := by decide +kernel
theorem dX8_listRuns_38 : decode cX8_listRuns 38 = .ok (.if_icmp .le 14, 3) := by decide +kernel
theorem dX8_listRuns_41 : decode cX8_listRuns 41 = .ok (.aload_n 0, 1) := by decide +kernel
theorem dX8_listRuns_42 : decode cX8_listRuns 42 = .ok (.getfield 24, 3) := by decide +kernel
theorem dX8_listRuns_45 : decode cX8_listRuns 45 = .ok (.iload_n 2, 1) := by decide +kernel
theorem dX8_listRuns_46 : decode cX8_listRuns 46 = .ok (.iload_n 3, 1) := by decide +kernel
theorem dX8_listRuns_47 : decode cX8_listRuns 47 = .ok (.iload_n 2, 1) := by decide +kernel
theorem dX8_listRuns_48 : decode cX8_listRuns 48 = .ok (.isub, 1) := by decide +kernel
theorem dX8_listRuns_49 : decode cX8_listRuns 49 = .ok (.invokevirtual 89, 3) := by decide +kernel
theorem dX8_listRuns_52 : decode cX8_listRuns 52 = .ok (.iload_n 3, 1) := by decide +kernel
theorem dX8_listRuns_53 : decode cX8_listRuns 53 = .ok (.iconst 1, 1) := by decide +kernel
theorem dX8_listRuns_54 : decode cX8_listRuns 54 = .ok (.iadd, 1) := by decide +kernel
theorem dX8_listRuns_55 : decode cX8_listRuns 55 = .ok (.istore_n 2, 1) := by decide +kernel
theorem dX8_listRuns_56 : decode cX8_listRuns 56 = .ok (.iinc 3 1, 3) := by decide +kernel
theorem dX8_listRuns_59 : decode cX8_listRuns 59 = .ok (.goto (-48), 3) := by decide +kernel
theorem dX8_listRuns_62 : decode cX8_listRuns 62 = .ok (.return_, 1) := by decide +kernel
set_option maxRecDepth 20000 in
theorem ggX8_meet_X8_addRoom : GoodIn wsX8_meet wsX8_addRoom := by first | exact goodIn_sub (show zy_S _ wsX8_meet from (zy_c (zy_t (zy_l (zy_t (zy_t (zy_t (zy_t (zy_t (zy_t (zy_t (zy_t (zy_t (zy_t zy_h)))))))))))) (zy_a (zy_c (zy_t (zy_l (zy_t (zy_t (zy_t (zy_t zy_h)))))) (zy_c (zy_t (zy_l (zy_t (zy_t (zy_t (zy_t (zy_t zy_h))))))) (zy_c (zy_t (zy_l (zy_t (zy_t zy_h)))) (zy_c (zy_t (zy_l (zy_t (zy_t (zy_t zy_h))))) zy_n)))) (zy_p (fun _ h => (zy_t (zy_r h))))))) (by decide +kernel) | exact goodIn_r _ [11, 5, 6, 3, 4, 12, 13, 14, 15, 16, 17, 18, 19, 20] (by decide +kernel) (by decide +kernel)
set_option maxRecDepth 20000 in
theorem gX8_meet_X8_addRoom : GoodIn wsX8_meet (wsV RX8 94 RX8 yX8_addRoom wsX8_addRoom) := by first | exact goodIn_app (goodIn_sub (show zy_S _ wsX8_meet from (zy_c (zy_t (zy_l (zy_t (zy_t (zy_t (zy_t (zy_t (zy_t zy_h)))))))) (zy_c (zy_t (zy_l (zy_t (zy_t (zy_t (zy_t (zy_t (zy_t (zy_t zy_h))))))))) (zy_c (zy_t (zy_l (zy_t (zy_t (zy_t (zy_t (zy_t (zy_t (zy_t (zy_t zy_h)))))))))) (zy_c (zy_t (zy_l (zy_t (zy_t (zy_t (zy_t (zy_t (zy_t (zy_t (zy_t (zy_t zy_h))))))))))) zy_n))))) (by decide +kernel)) ggX8_meet_X8_addRoom | exact goodIn_app (goodIn_of _ (by decide +kernel)) ggX8_meet_X8_addRoom
theorem dX8_meet_0 : decode cX8_meet 0 = .ok (.iload_n 1, 1) := by decide +kernel
theorem dX8_meet_1 : decode cX8_meet 1 = .ok (.iload_n 2, 1) := by decide +kernel
theorem dX8_meet_2 : decode cX8_meet 2 = .ok (.bipush 14, 2) := by decide +kernel
theorem dX8_meet_4 : decode cX8_meet 4 = .ok (.ishl, 1) := by decide +kernel
theorem dX8_meet_5 : decode cX8_meet 5 = .ok (.ior, 1) := by decide +kernel
theorem dX8_meet_6 : decode cX8_meet 6 = .ok (.iload_n 3, 1) := by decide +kernel
theorem dX8_meet_7 : decode cX8_meet 7 = .ok (.bipush 28, 2) := by decide +kernel
theorem dX8_meet_9 : decode cX8_meet 9 = .ok (.ishl, 1) := by decide +kernel
theorem dX8_meet_10 : decode cX8_meet 10 = .ok (.ior, 1) := by decide +kernel
theorem dX8_meet_11 : decode cX8_meet 11 = .ok (.istore 4, 2) := by decide +kernel
theorem dX8_meet_13 : decode cX8_meet 13 = .ok (.iload 4, 2) := by decide +kernel
theorem dX8_meet_15 : decode cX8_meet 15 = .ok (.ldc 93, 2) := by decide +kernel
theorem dX8_meet_17 : decode cX8_meet 17 = .ok (.imul, 1) := by decide +kernel
theorem dX8_meet_18 : decode cX8_meet 18 = .ok (.bipush 17, 2) := by decide +kernel
theorem dX8_meet_20 : decode cX8_meet 20 = .ok (.iushr, 1) := by decide +kernel
theorem dX8_meet_21 : decode cX8_meet 21 = .ok (.istore 5, 2) := by decide +kernel
theorem dX8_meet_23 : decode cX8_meet 23 = .ok (.iconst 0, 1) := by decide +kernel
theorem dX8_meet_24 : decode cX8_meet 24 = .ok (.istore 6, 2) := by decide +kernel
theorem dX8_meet_26 : decode cX8_meet 26 = .ok (.iload 6, 2) := by decide +kernel
theorem dX8_meet_28 : decode cX8_meet 28 = .ok (.ldc 15, 2) := by decide +kernel
theorem dX8_meet_30 : decode cX8_meet 30 = .ok (.if_icmp .ge 70, 3) := by decide +kernel
theorem dX8_meet_33 : decode cX8_meet 33 = .ok (.aload_n 0, 1) := by decide +kernel
theorem dX8_meet_34 : decode cX8_meet 34 = .ok (.getfield 16, 3) := by decide +kernel
theorem dX8_meet_37 : decode cX8_meet 37 = .ok (.iload 5, 2) := by decide +kernel
theorem dX8_meet_39 : decode cX8_meet 39 = .ok (.iaload, 1) := by decide +kernel
theorem dX8_meet_40 : decode cX8_meet 40 = .ok (.aload_n 0, 1) := by decide +kernel
theorem dX8_meet_41 : decode cX8_meet 41 = .ok (.getfield 28, 3) := by decide +kernel
theorem dX8_meet_44 : decode cX8_meet 44 = .ok (.isub, 1) := by decide +kernel
theorem dX8_meet_45 : decode cX8_meet 45 = .ok (.istore 7, 2) := by decide +kernel
theorem dX8_meet_47 : decode cX8_meet 47 = .ok (.iload 7, 2) := by decide +kernel
theorem dX8_meet_49 : decode cX8_meet 49 = .ok (.ifCond .lt 12, 3) := by decide +kernel
theorem dX8_meet_52 : decode cX8_meet 52 = .ok (.iload 7, 2) := by decide +kernel
theorem dX8_meet_54 : decode cX8_meet 54 = .ok (.aload_n 0, 1) := by decide +kernel
theorem dX8_meet_55 : decode cX8_meet 55 = .ok (.getfield 32, 3) := by decide +kernel
theorem dX8_meet_58 : decode cX8_meet 58 = .ok (.if_icmp .lt 12, 3) := by decide +kernel
theorem dX8_meet_61 : decode cX8_meet 61 = .ok (.aload_n 0, 1) := by decide +kernel
theorem dX8_meet_62 : decode cX8_meet 62 = .ok (.iload 4, 2) := by decide +kernel
theorem dX8_meet_64 : decode cX8_meet 64 = .ok (.iload 5, 2) := by decide +kernel
theorem dX8_meet_66 : decode cX8_meet 66 = .ok (.invokevirtual 94, 3) := by decide +kernel
theorem dX8_meet_69 : decode cX8_meet 69 = .ok (.ireturn, 1) := by decide +kernel
theorem dX8_meet_70 : decode cX8_meet 70 = .ok (.aload_n 0, 1) := by decide +kernel
theorem dX8_meet_71 : decode cX8_meet 71 = .ok (.getfield 11, 3) := by decide +kernel
theorem dX8_meet_74 : decode cX8_meet 74 = .ok (.iload 7, 2) := by decide +kernel
theorem dX8_meet_76 : decode cX8_meet 76 = .ok (.iaload, 1) := by decide +kernel
theorem dX8_meet_77 : decode cX8_meet 77 = .ok (.iload 4, 2) := by decide +kernel
theorem dX8_meet_79 : decode cX8_meet 79 = .ok (.if_icmp .ne 5, 3) := by decide +kernel
theorem dX8_meet_82 : decode cX8_meet 82 = .ok (.iconst 1, 1) := by decide +kernel
theorem dX8_meet_83 : decode cX8_meet 83 = .ok (.ireturn, 1) := by decide +kernel
theorem dX8_meet_84 : decode cX8_meet 84 = .ok (.iload 5, 2) := by decide +kernel
theorem dX8_meet_86 : decode cX8_meet 86 = .ok (.iconst 1, 1) := by decide +kernel
theorem dX8_meet_87 : decode cX8_meet 87 = .ok (.iadd, 1) := by decide +kernel
theorem dX8_meet_88 : decode cX8_meet 88 = .ok (.sipush 32767, 3) := by decide +kernel
theorem dX8_meet_91 : decode cX8_meet 91 = .ok (.iand, 1) := by decide +kernel
theorem dX8_meet_92 : decode cX8_meet 92 = .ok (.istore 5, 2) := by decide +kernel
theorem dX8_meet_94 : decode cX8_meet 94 = .ok (.iinc 6 1, 3) := by decide +kernel
theorem dX8_meet_97 : decode cX8_meet 97 = .ok (.goto (-71), 3) := by decide +kernel
theorem dX8_meet_100 : decode cX8_meet 100 = .ok (.iconst 0, 1) := by decide +kernel
theorem dX8_meet_101 : decode cX8_meet 101 = .ok (.ireturn, 1) := by decide +kernel
theorem dX8_addRoom_0 : decode cX8_addRoom 0 = .ok (.aload_n 0, 1) := by decide +kernel
theorem dX8_addRoom_1 : decode cX8_addRoom 1 = .ok (.getfield 32, 3) := by decide +kernel
theorem dX8_addRoom_4 : decode cX8_addRoom 4 = .ok (.sipush 20000, 3) := by decide +kernel
theorem dX8_addRoom_7 : decode cX8_addRoom 7 = .ok (.if_icmp .lt 5, 3) := by decide +kernel
theorem dX8_addRoom_10 : decode cX8_addRoom 10 = .ok (.iconst 0, 1) := by decide +kernel
theorem dX8_addRoom_11 : decode cX8_addRoom 11 = .ok (.ireturn, 1) := by decide +kernel
theorem dX8_addRoom_12 : decode cX8_addRoom 12 = .ok (.aload_n 0, 1) := by decide +kernel
theorem dX8_addRoom_13 : decode cX8_addRoom 13 = .ok (.getfield 11, 3) := by decide +kernel
theorem dX8_addRoom_16 : decode cX8_addRoom 16 = .ok (.aload_n 0, 1) := by decide +kernel
theorem dX8_addRoom_17 : decode cX8_addRoom 17 = .ok (.getfield 32, 3) := by decide +kernel
theorem dX8_addRoom_20 : decode cX8_addRoom 20 = .ok (.iload_n 1, 1) := by decide +kernel
theorem dX8_addRoom_21 : decode cX8_addRoom 21 = .ok (.iastore, 1) := by decide +kernel
theorem dX8_addRoom_22 : decode cX8_addRoom 22 = .ok (.aload_n 0, 1) := by decide +kernel
theorem dX8_addRoom_23 : decode cX8_addRoom 23 = .ok (.getfield 16, 3) := by decide +kernel
theorem dX8_addRoom_26 : decode cX8_addRoom 26 = .ok (.iload_n 2, 1) := by decide +kernel
theorem dX8_addRoom_27 : decode cX8_addRoom 27 = .ok (.aload_n 0, 1) := by decide +kernel
theorem dX8_addRoom_28 : decode cX8_addRoom 28 = .ok (.getfield 28, 3) := by decide +kernel
theorem dX8_addRoom_31 : decode cX8_addRoom 31 = .ok (.aload_n 0, 1) := by decide +kernel
theorem dX8_addRoom_32 : decode cX8_addRoom 32 = .ok (.getfield 32, 3) := by decide +kernel
theorem dX8_addRoom_35 : decode cX8_addRoom 35 = .ok (.iadd, 1) := by decide +kernel
theorem dX8_addRoom_36 : decode cX8_addRoom 36 = .ok (.iastore, 1) := by decide +kernel
theorem dX8_addRoom_37 : decode cX8_addRoom 37 = .ok (.aload_n 0, 1) := by decide +kernel
theorem dX8_addRoom_38 : decode cX8_addRoom 38 = .ok (.dup, 1) := by decide +kernel
theorem dX8_addRoom_39 : decode cX8_addRoom 39 = .ok (.getfield 32, 3) := by decide +kernel
theorem dX8_addRoom_42 : decode cX8_addRoom 42 = .ok (.iconst 1, 1) := by decide +kernel
theorem dX8_addRoom_43 : decode cX8_addRoom 43 = .ok (.iadd, 1) := by decide +kernel
theorem dX8_addRoom_44 : decode cX8_addRoom 44 = .ok (.putfield 32, 3) := by decide +kernel
theorem dX8_addRoom_47 : decode cX8_addRoom 47 = .ok (.iconst 1, 1) := by decide +kernel
theorem dX8_addRoom_48 : decode cX8_addRoom 48 = .ok (.ireturn, 1) := by decide +kernel
set_option maxRecDepth 20000 in
theorem ggX9_init_X1_init : GoodIn wsX9_init wsX1_init := by first | exact goodIn_sub (show zy_S _ wsX9_init from (zy_c (zy_t (zy_l (zy_l (zy_l (zy_l (zy_l (zy_l (zy_l (zy_t (zy_t (zy_t (zy_t zy_h)))))))))))) (zy_a (zy_a (zy_a (zy_a (zy_a (zy_a (zy_a (zy_c (zy_t (zy_l (zy_l (zy_l (zy_l (zy_l (zy_l (zy_l (zy_t (zy_t (zy_t (zy_t (zy_t zy_h))))))))))))) (zy_c (zy_t (zy_l (zy_l (zy_l (zy_l (zy_l (zy_l (zy_l (zy_t (zy_t (zy_t (zy_t (zy_t (zy_t zy_h)))))))))))))) (zy_c (zy_t (zy_l (zy_l (zy_l (zy_l (zy_l (zy_l (zy_l (zy_t (zy_t (zy_t (zy_t (zy_t (zy_t (zy_t zy_h))))))))))))))) (zy_c (zy_t (zy_l (zy_l (zy_l (zy_l (zy_l (zy_l (zy_l (zy_t (zy_t (zy_t (zy_t (zy_t (zy_t (zy_t (zy_t zy_h)))))))))))))))) zy_n)))) (zy_p (fun _ h => (zy_t (zy_l (zy_l (zy_l (zy_l (zy_l (zy_r h)))))))))) (zy_p (fun _ h => (zy_t (zy_l (zy_l (zy_l (zy_l (zy_r h))))))))) (zy_p (fun _ h => (zy_t (zy_l (zy_l (zy_l (zy_r h)))))))) (zy_p (fun _ h => (zy_t (zy_l (zy_l (zy_r h))))))) (zy_p (fun _ h => (zy_t (zy_l (zy_r h)))))) (zy_p (fun _ h => (zy_t (zy_r h))))) (zy_p (fun _ h => (zy_t (zy_l (zy_l (zy_l (zy_l (zy_l (zy_l (zy_r h))))))))))))) (by decide +kernel) | exact goodIn_r _ [5, 6, 7, 8, 9, 12, 13, 14, 15, 16, 17, 18, 19, 20, 21, 22, 23, 24, 25, 26, 27, 10, 11] (by decide +kernel) (by decide +kernel)
set_option maxRecDepth 20000 in
theorem gX9_init_X1_init : GoodIn wsX9_init (wsX1_init) := ggX9_init_X1_init
theorem dX9_init_0 : decode cX9_init 0 = .ok (.aload_n 0, 1) := by decide +kernel
theorem dX9_init_1 : decode cX9_init 1 = .ok (.aload_n 1, 1) := by decide +kernel
theorem dX9_init_2 : decode cX9_init 2 = .ok (.invokespecial 3, 3) := by decide +kernel
theorem dX9_init_5 : decode cX9_init 5 = .ok (.aload_n 0, 1) := by decide +kernel
theorem dX9_init_6 : decode cX9_init 6 = .ok (.iconst 0, 1) := by decide +kernel
theorem dX9_init_7 : decode cX9_init 7 = .ok (.putfield 9, 3) := by decide +kernel
theorem dX9_init_10 : decode cX9_init 10 = .ok (.return_, 1) := by decide +kernel
theorem dX9_begin_0 : decode cX9_begin 0 = .ok (.aload_n 0, 1) := by decide +kernel
theorem dX9_begin_1 : decode cX9_begin 1 = .ok (.iconst 0, 1) := by decide +kernel
theorem dX9_begin_2 : decode cX9_begin 2 = .ok (.putfield 9, 3) := by decide +kernel
theorem dX9_begin_5 : decode cX9_begin 5 = .ok (.return_, 1) := by decide +kernel
set_option maxRecDepth 20000 in
theorem ggX9_take_X7_addLooked : GoodIn wsX9_take wsX7_addLooked := by first | exact goodIn_sub (show zy_S _ wsX9_take from (zy_c (zy_t (zy_l (zy_l (zy_l (zy_l (zy_l (zy_l (zy_l (zy_l (zy_t (zy_t (zy_t (zy_t (zy_t (zy_t (zy_t zy_h)))))))))))))))) (zy_a (zy_c (zy_t (zy_l (zy_l (zy_l (zy_l (zy_l (zy_l (zy_l (zy_l (zy_t (zy_t (zy_t (zy_t (zy_t (zy_t (zy_t (zy_t zy_h))))))))))))))))) zy_n) (zy_p (fun _ h => (zy_t (zy_r h))))))) (by decide +kernel) | exact goodIn_r _ [8, 9, 33, 34, 35, 36, 37, 38, 39, 40, 41, 42] (by decide +kernel) (by decide +kernel)
set_option maxRecDepth 20000 in
theorem gX9_take_X7_addLooked : GoodIn wsX9_take (wsV RX9 19 RX7 yX7_addLooked wsX7_addLooked) := by first | exact goodIn_app (goodIn_sub (show zy_S _ wsX9_take from (zy_c (zy_t (zy_l (zy_l (zy_l (zy_l (zy_l (zy_l (zy_l (zy_l (zy_t (zy_t (zy_t zy_h)))))))))))) (zy_c (zy_t (zy_l (zy_l (zy_l (zy_l (zy_l (zy_l (zy_l (zy_l (zy_t (zy_t (zy_t (zy_t zy_h))))))))))))) (zy_c (zy_t (zy_l (zy_l (zy_l (zy_l (zy_l (zy_l (zy_l (zy_l (zy_t (zy_t (zy_t (zy_t (zy_t zy_h)))))))))))))) (zy_c (zy_t (zy_l (zy_l (zy_l (zy_l (zy_l (zy_l (zy_l (zy_l (zy_t (zy_t (zy_t (zy_t (zy_t (zy_t zy_h))))))))))))))) zy_n))))) (by decide +kernel)) ggX9_take_X7_addLooked | exact goodIn_app (goodIn_of _ (by decide +kernel)) ggX9_take_X7_addLooked
set_option maxRecDepth 20000 in
theorem ggX9_take_X7_words : GoodIn wsX9_take wsX7_words := by first | exact goodIn_sub (show zy_S _ wsX9_take from (zy_c (zy_t (zy_l (zy_l (zy_l (zy_l (zy_l (zy_l (zy_l (zy_l (zy_t (zy_t (zy_t (zy_t (zy_t (zy_t (zy_t (zy_t (zy_t (zy_t (zy_t (zy_t zy_h))))))))))))))))))))) (zy_a (zy_c (zy_t (zy_l (zy_l (zy_l (zy_l (zy_l (zy_l (zy_l (zy_l (zy_t (zy_t (zy_t (zy_t (zy_t (zy_t (zy_t (zy_t (zy_t (zy_t (zy_t (zy_t (zy_t zy_h)))))))))))))))))))))) zy_n) (zy_p (fun _ h => (zy_t (zy_r h))))))) (by decide +kernel) | exact goodIn_r _ [13, 14, 33, 34, 35, 36, 37, 38, 39, 40, 41, 42] (by decide +kernel) (by decide +kernel)
set_option maxRecDepth 20000 in
theorem gX9_take_X7_words : GoodIn wsX9_take (wsV RX9 25 RX7 yX7_words wsX7_words) := by first | exact goodIn_app (goodIn_sub (show zy_S _ wsX9_take from (zy_c (zy_t (zy_l (zy_l (zy_l (zy_l (zy_l (zy_l (zy_l (zy_l (zy_t (zy_t (zy_t (zy_t (zy_t (zy_t (zy_t (zy_t (zy_t zy_h)))))))))))))))))) (zy_c (zy_t (zy_l (zy_l (zy_l (zy_l (zy_l (zy_l (zy_l (zy_l (zy_t (zy_t (zy_t (zy_t (zy_t (zy_t (zy_t (zy_t (zy_t (zy_t zy_h))))))))))))))))))) (zy_c (zy_t (zy_l (zy_l (zy_l (zy_l (zy_l (zy_l (zy_l (zy_l (zy_t (zy_t (zy_t (zy_t (zy_t (zy_t (zy_t (zy_t (zy_t (zy_t (zy_t zy_h)))))))))))))))))))) (zy_c (zy_t (zy_l (zy_l (zy_l (zy_l (zy_l (zy_l (zy_l (zy_l (zy_t (zy_t (zy_t (zy_t (zy_t (zy_t zy_h))))))))))))))) zy_n))))) (by decide +kernel)) ggX9_take_X7_words | exact goodIn_app (goodIn_of _ (by decide +kernel)) ggX9_take_X7_words
theorem dX9_take_0 : decode cX9_take 0 = .ok (.aload_n 0, 1) := by decide +kernel
theorem dX9_take_1 : decode cX9_take 1 = .ok (.getfield 15, 3) := by decide +kernel
theorem dX9_take_4 : decode cX9_take 4 = .ok (.iconst 1, 1) := by decide +kernel
theorem dX9_take_5 : decode cX9_take 5 = .ok (.invokevirtual 19, 3) := by decide +kernel
theorem dX9_take_8 : decode cX9_take 8 = .ok (.iload_n 1, 1) := by decide +kernel
theorem dX9_take_9 : decode cX9_take 9 = .ok (.aload_n 0, 1) := by decide +kernel
theorem dX9_take_10 : decode cX9_take 10 = .ok (.getfield 15, 3) := by decide +kernel
theorem dX9_take_13 : decode cX9_take 13 = .ok (.invokevirtual 25, 3) := by decide +kernel
theorem dX9_take_16 : decode cX9_take 16 = .ok (.aload_n 0, 1) := by decide +kernel
theorem dX9_take_17 : decode cX9_take 17 = .ok (.getfield 9, 3) := by decide +kernel
theorem dX9_take_20 : decode cX9_take 20 = .ok (.isub, 1) := by decide +kernel
theorem dX9_take_21 : decode cX9_take 21 = .ok (.if_icmp .le 5, 3) := by decide +kernel
theorem dX9_take_24 : decode cX9_take 24 = .ok (.iconst (-1), 1) := by decide +kernel
theorem dX9_take_25 : decode cX9_take 25 = .ok (.ireturn, 1) := by decide +kernel
theorem dX9_take_26 : decode cX9_take 26 = .ok (.aload_n 0, 1) := by decide +kernel
theorem dX9_take_27 : decode cX9_take 27 = .ok (.getfield 9, 3) := by decide +kernel
theorem dX9_take_30 : decode cX9_take 30 = .ok (.istore_n 2, 1) := by decide +kernel
theorem dX9_take_31 : decode cX9_take 31 = .ok (.aload_n 0, 1) := by decide +kernel
theorem dX9_take_32 : decode cX9_take 32 = .ok (.dup, 1) := by decide +kernel
theorem dX9_take_33 : decode cX9_take 33 = .ok (.getfield 9, 3) := by decide +kernel
theorem dX9_take_36 : decode cX9_take 36 = .ok (.iload_n 1, 1) := by decide +kernel
theorem dX9_take_37 : decode cX9_take 37 = .ok (.iadd, 1) := by decide +kernel
theorem dX9_take_38 : decode cX9_take 38 = .ok (.putfield 9, 3) := by decide +kernel
theorem dX9_take_41 : decode cX9_take 41 = .ok (.iload_n 2, 1) := by decide +kernel
theorem dX9_take_42 : decode cX9_take 42 = .ok (.ireturn, 1) := by decide +kernel
set_option maxRecDepth 20000 in
theorem ggX9_takeBack_X7_isFree : GoodIn wsX9_takeBack wsX7_isFree := by first | exact goodIn_sub (show zy_S _ wsX9_takeBack from (zy_c (zy_t (zy_l (zy_l (zy_l (zy_l (zy_l (zy_l (zy_l (zy_l (zy_t (zy_t (zy_t (zy_t (zy_t (zy_t (zy_t zy_h)))))))))))))))) (zy_a (zy_c (zy_t (zy_l (zy_l (zy_l (zy_l (zy_l (zy_l (zy_l (zy_l (zy_t (zy_t (zy_t (zy_t (zy_t (zy_t (zy_t (zy_t zy_h))))))))))))))))) (zy_c (zy_t (zy_l (zy_l (zy_l (zy_l (zy_l (zy_l (zy_l (zy_l (zy_t (zy_t (zy_t (zy_t (zy_t (zy_t (zy_t (zy_t (zy_t zy_h)))))))))))))))))) zy_n)) (zy_p (fun _ h => (zy_t (zy_r h))))))) (by decide +kernel) | exact goodIn_r _ [8, 9, 10, 29, 30, 31, 32, 33, 34, 35, 36, 37, 38] (by decide +kernel) (by decide +kernel)
set_option maxRecDepth 20000 in
theorem gX9_takeBack_X7_isFree : GoodIn wsX9_takeBack (wsV RX9 29 RX7 yX7_isFree wsX7_isFree) := by first | exact goodIn_app (goodIn_sub (show zy_S _ wsX9_takeBack from (zy_c (zy_t (zy_l (zy_l (zy_l (zy_l (zy_l (zy_l (zy_l (zy_l (zy_t (zy_t (zy_t zy_h)))))))))))) (zy_c (zy_t (zy_l (zy_l (zy_l (zy_l (zy_l (zy_l (zy_l (zy_l (zy_t (zy_t (zy_t (zy_t zy_h))))))))))))) (zy_c (zy_t (zy_l (zy_l (zy_l (zy_l (zy_l (zy_l (zy_l (zy_l (zy_t (zy_t (zy_t (zy_t (zy_t zy_h)))))))))))))) (zy_c (zy_t (zy_l (zy_l (zy_l (zy_l (zy_l (zy_l (zy_l (zy_l (zy_t (zy_t (zy_t (zy_t (zy_t (zy_t zy_h))))))))))))))) zy_n))))) (by decide +kernel)) ggX9_takeBack_X7_isFree | exact goodIn_app (goodIn_of _ (by decide +kernel)) ggX9_takeBack_X7_isFree
theorem dX9_takeBack_0 : decode cX9_takeBack 0 = .ok (.aload_n 0, 1) := by decide +kernel
theorem dX9_takeBack_1 : decode cX9_takeBack 1 = .ok (.getfield 9, 3) := by decide +kernel
theorem dX9_takeBack_4 : decode cX9_takeBack 4 = .ok (.ifCond .le 32, 3) := by decide +kernel
theorem dX9_takeBack_7 : decode cX9_takeBack 7 = .ok (.aload_n 0, 1) := by decide +kernel
theorem dX9_takeBack_8 : decode cX9_takeBack 8 = .ok (.getfield 15, 3) := by decide +kernel
theorem dX9_takeBack_11 : decode cX9_takeBack 11 = .ok (.aload_n 0, 1) := by decide +kernel
theorem dX9_takeBack_12 : decode cX9_takeBack 12 = .ok (.getfield 9, 3) := by decide +kernel
theorem dX9_takeBack_15 : decode cX9_takeBack 15 = .ok (.iconst 1, 1) := by decide +kernel
theorem dX9_takeBack_16 : decode cX9_takeBack 16 = .ok (.isub, 1) := by decide +kernel
theorem dX9_takeBack_17 : decode cX9_takeBack 17 = .ok (.invokevirtual 29, 3) := by decide +kernel
theorem dX9_takeBack_20 : decode cX9_takeBack 20 = .ok (.ifCond .eq 16, 3) := by decide +kernel
theorem dX9_takeBack_23 : decode cX9_takeBack 23 = .ok (.aload_n 0, 1) := by decide +kernel
theorem dX9_takeBack_24 : decode cX9_takeBack 24 = .ok (.dup, 1) := by decide +kernel
theorem dX9_takeBack_25 : decode cX9_takeBack 25 = .ok (.getfield 9, 3) := by decide +kernel
theorem dX9_takeBack_28 : decode cX9_takeBack 28 = .ok (.iconst 1, 1) := by decide +kernel
theorem dX9_takeBack_29 : decode cX9_takeBack 29 = .ok (.isub, 1) := by decide +kernel
theorem dX9_takeBack_30 : decode cX9_takeBack 30 = .ok (.putfield 9, 3) := by decide +kernel
theorem dX9_takeBack_33 : decode cX9_takeBack 33 = .ok (.goto (-33), 3) := by decide +kernel
theorem dX9_takeBack_36 : decode cX9_takeBack 36 = .ok (.return_, 1) := by decide +kernel
theorem dX9_top_0 : decode cX9_top 0 = .ok (.aload_n 0, 1) := by decide +kernel
theorem dX9_top_1 : decode cX9_top 1 = .ok (.getfield 9, 3) := by decide +kernel
theorem dX9_top_4 : decode cX9_top 4 = .ok (.ireturn, 1) := by decide +kernel
theorem dX10_init_0 : decode cX10_init 0 = .ok (.aload_n 0, 1) := by decide +kernel
theorem dX10_init_1 : decode cX10_init 1 = .ok (.invokespecial 3, 3) := by decide +kernel
theorem dX10_init_4 : decode cX10_init 4 = .ok (.aload_n 0, 1) := by decide +kernel
theorem dX10_init_5 : decode cX10_init 5 = .ok (.iconst 0, 1) := by decide +kernel
theorem dX10_init_6 : decode cX10_init 6 = .ok (.putfield 9, 3) := by decide +kernel
theorem dX10_init_9 : decode cX10_init 9 = .ok (.aload_n 0, 1) := by decide +kernel
theorem dX10_init_10 : decode cX10_init 10 = .ok (.iconst 0, 1) := by decide +kernel
theorem dX10_init_11 : decode cX10_init 11 = .ok (.putfield 15, 3) := by decide +kernel
theorem dX10_init_14 : decode cX10_init 14 = .ok (.iload_n 1, 1) := by decide +kernel
theorem dX10_init_15 : decode cX10_init 15 = .ok (.iconst 0, 1) := by decide +kernel
theorem dX10_init_16 : decode cX10_init 16 = .ok (.invokestatic 18, 3) := by decide +kernel
theorem dX10_init_19 : decode cX10_init 19 = .ok (.istore_n 2, 1) := by decide +kernel
theorem dX10_init_20 : decode cX10_init 20 = .ok (.aload_n 0, 1) := by decide +kernel
theorem dX10_init_21 : decode cX10_init 21 = .ok (.iload_n 2, 1) := by decide +kernel
theorem dX10_init_22 : decode cX10_init 22 = .ok (.newarray .int, 2) := by decide +kernel
theorem dX10_init_24 : decode cX10_init 24 = .ok (.putfield 24, 3) := by decide +kernel
theorem dX10_init_27 : decode cX10_init 27 = .ok (.aload_n 0, 1) := by decide +kernel
theorem dX10_init_28 : decode cX10_init 28 = .ok (.iload_n 2, 1) := by decide +kernel
theorem dX10_init_29 : decode cX10_init 29 = .ok (.newarray .int, 2) := by decide +kernel
theorem dX10_init_31 : decode cX10_init 31 = .ok (.putfield 28, 3) := by decide +kernel
theorem dX10_init_34 : decode cX10_init 34 = .ok (.return_, 1) := by decide +kernel
theorem dX10_clear_0 : decode cX10_clear 0 = .ok (.aload_n 0, 1) := by decide +kernel
theorem dX10_clear_1 : decode cX10_clear 1 = .ok (.iconst 0, 1) := by decide +kernel
theorem dX10_clear_2 : decode cX10_clear 2 = .ok (.putfield 9, 3) := by decide +kernel
theorem dX10_clear_5 : decode cX10_clear 5 = .ok (.return_, 1) := by decide +kernel
theorem dX10_size_0 : decode cX10_size 0 = .ok (.aload_n 0, 1) := by decide +kernel
theorem dX10_size_1 : decode cX10_size 1 = .ok (.getfield 9, 3) := by decide +kernel
theorem dX10_size_4 : decode cX10_size 4 = .ok (.ireturn, 1) := by decide +kernel
theorem dX10_add_0 : decode cX10_add 0 = .ok (.aload_n 0, 1) := by decide +kernel
theorem dX10_add_1 : decode cX10_add 1 = .ok (.getfield 9, 3) := by decide +kernel
theorem dX10_add_4 : decode cX10_add 4 = .ok (.aload_n 0, 1) := by decide +kernel
theorem dX10_add_5 : decode cX10_add 5 = .ok (.getfield 24, 3) := by decide +kernel
theorem dX10_add_8 : decode cX10_add 8 = .ok (.arraylength, 1) := by decide +kernel
theorem dX10_add_9 : decode cX10_add 9 = .ok (.if_icmp .ge 33, 3) := by decide +kernel
theorem dX10_add_12 : decode cX10_add 12 = .ok (.aload_n 0, 1) := by decide +kernel
theorem dX10_add_13 : decode cX10_add 13 = .ok (.getfield 24, 3) := by decide +kernel
theorem dX10_add_16 : decode cX10_add 16 = .ok (.aload_n 0, 1) := by decide +kernel
theorem dX10_add_17 : decode cX10_add 17 = .ok (.getfield 9, 3) := by decide +kernel
theorem dX10_add_20 : decode cX10_add 20 = .ok (.iload_n 1, 1) := by decide +kernel
theorem dX10_add_21 : decode cX10_add 21 = .ok (.iastore, 1) := by decide +kernel
theorem dX10_add_22 : decode cX10_add 22 = .ok (.aload_n 0, 1) := by decide +kernel
theorem dX10_add_23 : decode cX10_add 23 = .ok (.getfield 28, 3) := by decide +kernel
theorem dX10_add_26 : decode cX10_add 26 = .ok (.aload_n 0, 1) := by decide +kernel
theorem dX10_add_27 : decode cX10_add 27 = .ok (.getfield 9, 3) := by decide +kernel
theorem dX10_add_30 : decode cX10_add 30 = .ok (.iload_n 2, 1) := by decide +kernel
theorem dX10_add_31 : decode cX10_add 31 = .ok (.iastore, 1) := by decide +kernel
theorem dX10_add_32 : decode cX10_add 32 = .ok (.aload_n 0, 1) := by decide +kernel
theorem dX10_add_33 : decode cX10_add 33 = .ok (.dup, 1) := by decide +kernel
theorem dX10_add_34 : decode cX10_add 34 = .ok (.getfield 9, 3) := by decide +kernel
theorem dX10_add_37 : decode cX10_add 37 = .ok (.iconst 1, 1) := by decide +kernel
theorem dX10_add_38 : decode cX10_add 38 = .ok (.iadd, 1) := by decide +kernel
theorem dX10_add_39 : decode cX10_add 39 = .ok (.putfield 9, 3) := by decide +kernel
theorem dX10_add_42 : decode cX10_add 42 = .ok (.return_, 1) := by decide +kernel
theorem dX10_remove_0 : decode cX10_remove 0 = .ok (.iload_n 1, 1) := by decide +kernel
theorem dX10_remove_1 : decode cX10_remove 1 = .ok (.ifCond .lt 11, 3) := by decide +kernel
theorem dX10_remove_4 : decode cX10_remove 4 = .ok (.iload_n 1, 1) := by decide +kernel
theorem dX10_remove_5 : decode cX10_remove 5 = .ok (.aload_n 0, 1) := by decide +kernel
theorem dX10_remove_6 : decode cX10_remove 6 = .ok (.getfield 9, 3) := by decide +kernel
theorem dX10_remove_9 : decode cX10_remove 9 = .ok (.if_icmp .lt 4, 3) := by decide +kernel
theorem dX10_remove_12 : decode cX10_remove 12 = .ok (.return_, 1) := by decide +kernel
theorem dX10_remove_13 : decode cX10_remove 13 = .ok (.aload_n 0, 1) := by decide +kernel
theorem dX10_remove_14 : decode cX10_remove 14 = .ok (.dup, 1) := by decide +kernel
theorem dX10_remove_15 : decode cX10_remove 15 = .ok (.getfield 9, 3) := by decide +kernel
theorem dX10_remove_18 : decode cX10_remove 18 = .ok (.iconst 1, 1) := by decide +kernel
theorem dX10_remove_19 : decode cX10_remove 19 = .ok (.isub, 1) := by decide +kernel
theorem dX10_remove_20 : decode cX10_remove 20 = .ok (.putfield 9, 3) := by decide +kernel
theorem dX10_remove_23 : decode cX10_remove 23 = .ok (.aload_n 0, 1) := by decide +kernel
theorem dX10_remove_24 : decode cX10_remove 24 = .ok (.getfield 24, 3) := by decide +kernel
theorem dX10_remove_27 : decode cX10_remove 27 = .ok (.iload_n 1, 1) := by decide +kernel
theorem dX10_remove_28 : decode cX10_remove 28 = .ok (.iconst 1, 1) := by decide +kernel
theorem dX10_remove_29 : decode cX10_remove 29 = .ok (.iadd, 1) := by decide +kernel
theorem dX10_remove_30 : decode cX10_remove 30 = .ok (.aload_n 0, 1) := by decide +kernel
theorem dX10_remove_31 : decode cX10_remove 31 = .ok (.getfield 24, 3) := by decide +kernel
theorem dX10_remove_34 : decode cX10_remove 34 = .ok (.iload_n 1, 1) := by decide +kernel
theorem dX10_remove_35 : decode cX10_remove 35 = .ok (.aload_n 0, 1) := by decide +kernel
theorem dX10_remove_36 : decode cX10_remove 36 = .ok (.getfield 9, 3) := by decide +kernel
theorem dX10_remove_39 : decode cX10_remove 39 = .ok (.iload_n 1, 1) := by decide +kernel
theorem dX10_remove_40 : decode cX10_remove 40 = .ok (.isub, 1) := by decide +kernel
theorem dX10_remove_41 : decode cX10_remove 41 = .ok (.invokestatic 31, 3) := by decide +kernel
theorem dX10_remove_44 : decode cX10_remove 44 = .ok (.aload_n 0, 1) := by decide +kernel
theorem dX10_remove_45 : decode cX10_remove 45 = .ok (.getfield 28, 3) := by decide +kernel
theorem dX10_remove_48 : decode cX10_remove 48 = .ok (.iload_n 1, 1) := by decide +kernel
theorem dX10_remove_49 : decode cX10_remove 49 = .ok (.iconst 1, 1) := by decide +kernel
theorem dX10_remove_50 : decode cX10_remove 50 = .ok (.iadd, 1) := by decide +kernel
theorem dX10_remove_51 : decode cX10_remove 51 = .ok (.aload_n 0, 1) := by decide +kernel
theorem dX10_remove_52 : decode cX10_remove 52 = .ok (.getfield 28, 3) := by decide +kernel
theorem dX10_remove_55 : decode cX10_remove 55 = .ok (.iload_n 1, 1) := by decide +kernel
theorem dX10_remove_56 : decode cX10_remove 56 = .ok (.aload_n 0, 1) := by decide +kernel
theorem dX10_remove_57 : decode cX10_remove 57 = .ok (.getfield 9, 3) := by decide +kernel
theorem dX10_remove_60 : decode cX10_remove 60 = .ok (.iload_n 1, 1) := by decide +kernel
theorem dX10_remove_61 : decode cX10_remove 61 = .ok (.isub, 1) := by decide +kernel
theorem dX10_remove_62 : decode cX10_remove 62 = .ok (.invokestatic 31, 3) := by decide +kernel
theorem dX10_remove_65 : decode cX10_remove 65 = .ok (.return_, 1) := by decide +kernel
theorem dX10_placeOf_0 : decode cX10_placeOf 0 = .ok (.iload_n 1, 1) := by decide +kernel
theorem dX10_placeOf_1 : decode cX10_placeOf 1 = .ok (.ifCond .lt 11, 3) := by decide +kernel
theorem dX10_placeOf_4 : decode cX10_placeOf 4 = .ok (.iload_n 1, 1) := by decide +kernel
theorem dX10_placeOf_5 : decode cX10_placeOf 5 = .ok (.aload_n 0, 1) := by decide +kernel
theorem dX10_placeOf_6 : decode cX10_placeOf 6 = .ok (.getfield 9, 3) := by decide +kernel
theorem dX10_placeOf_9 : decode cX10_placeOf 9 = .ok (.if_icmp .lt 7, 3) := by decide +kernel
theorem dX10_placeOf_12 : decode cX10_placeOf 12 = .ok (.iconst (-1), 1) := by decide +kernel
theorem dX10_placeOf_13 : decode cX10_placeOf 13 = .ok (.goto 9, 3) := by decide +kernel
theorem dX10_placeOf_16 : decode cX10_placeOf 16 = .ok (.aload_n 0, 1) := by decide +kernel
theorem dX10_placeOf_17 : decode cX10_placeOf 17 = .ok (.getfield 24, 3) := by decide +kernel
theorem dX10_placeOf_20 : decode cX10_placeOf 20 = .ok (.iload_n 1, 1) := by decide +kernel
theorem dX10_placeOf_21 : decode cX10_placeOf 21 = .ok (.iaload, 1) := by decide +kernel
theorem dX10_placeOf_22 : decode cX10_placeOf 22 = .ok (.ireturn, 1) := by decide +kernel
theorem dX10_wordsOf_0 : decode cX10_wordsOf 0 = .ok (.iload_n 1, 1) := by decide +kernel
theorem dX10_wordsOf_1 : decode cX10_wordsOf 1 = .ok (.ifCond .lt 11, 3) := by decide +kernel
theorem dX10_wordsOf_4 : decode cX10_wordsOf 4 = .ok (.iload_n 1, 1) := by decide +kernel
theorem dX10_wordsOf_5 : decode cX10_wordsOf 5 = .ok (.aload_n 0, 1) := by decide +kernel
theorem dX10_wordsOf_6 : decode cX10_wordsOf 6 = .ok (.getfield 9, 3) := by decide +kernel
theorem dX10_wordsOf_9 : decode cX10_wordsOf 9 = .ok (.if_icmp .lt 7, 3) := by decide +kernel
theorem dX10_wordsOf_12 : decode cX10_wordsOf 12 = .ok (.iconst 0, 1) := by decide +kernel
theorem dX10_wordsOf_13 : decode cX10_wordsOf 13 = .ok (.goto 9, 3) := by decide +kernel
theorem dX10_wordsOf_16 : decode cX10_wordsOf 16 = .ok (.aload_n 0, 1) := by decide +kernel
theorem dX10_wordsOf_17 : decode cX10_wordsOf 17 = .ok (.getfield 28, 3) := by decide +kernel
theorem dX10_wordsOf_20 : decode cX10_wordsOf 20 = .ok (.iload_n 1, 1) := by decide +kernel
theorem dX10_wordsOf_21 : decode cX10_wordsOf 21 = .ok (.iaload, 1) := by decide +kernel
theorem dX10_wordsOf_22 : decode cX10_wordsOf 22 = .ok (.ireturn, 1) := by decide +kernel
theorem dX10_endOf_0 : decode cX10_endOf 0 = .ok (.iload_n 1, 1) := by decide +kernel
theorem dX10_endOf_1 : decode cX10_endOf 1 = .ok (.ifCond .lt 11, 3) := by decide +kernel
theorem dX10_endOf_4 : decode cX10_endOf 4 = .ok (.iload_n 1, 1) := by decide +kernel
theorem dX10_endOf_5 : decode cX10_endOf 5 = .ok (.aload_n 0, 1) := by decide +kernel
theorem dX10_endOf_6 : decode cX10_endOf 6 = .ok (.getfield 9, 3) := by decide +kernel
theorem dX10_endOf_9 : decode cX10_endOf 9 = .ok (.if_icmp .lt 7, 3) := by decide +kernel
theorem dX10_endOf_12 : decode cX10_endOf 12 = .ok (.iconst (-1), 1) := by decide +kernel
theorem dX10_endOf_13 : decode cX10_endOf 13 = .ok (.goto 16, 3) := by decide +kernel
theorem dX10_endOf_16 : decode cX10_endOf 16 = .ok (.aload_n 0, 1) := by decide +kernel
theorem dX10_endOf_17 : decode cX10_endOf 17 = .ok (.getfield 24, 3) := by decide +kernel
theorem dX10_endOf_20 : decode cX10_endOf 20 = .ok (.iload_n 1, 1) := by decide +kernel
theorem dX10_endOf_21 : decode cX10_endOf 21 = .ok (.iaload, 1) := by decide +kernel
theorem dX10_endOf_22 : decode cX10_endOf 22 = .ok (.aload_n 0, 1) := by decide +kernel
theorem dX10_endOf_23 : decode cX10_endOf 23 = .ok (.getfield 28, 3) := by decide +kernel
theorem dX10_endOf_26 : decode cX10_endOf 26 = .ok (.iload_n 1, 1) := by decide +kernel
theorem dX10_endOf_27 : decode cX10_endOf 27 = .ok (.iaload, 1) := by decide +kernel
theorem dX10_endOf_28 : decode cX10_endOf 28 = .ok (.iadd, 1) := by decide +kernel
theorem dX10_endOf_29 : decode cX10_endOf 29 = .ok (.ireturn, 1) := by decide +kernel
theorem dX10_mostWords_0 : decode cX10_mostWords 0 = .ok (.iconst 0, 1) := by decide +kernel
theorem dX10_mostWords_1 : decode cX10_mostWords 1 = .ok (.istore_n 1, 1) := by decide +kernel
theorem dX10_mostWords_2 : decode cX10_mostWords 2 = .ok (.iconst 0, 1) := by decide +kernel
theorem dX10_mostWords_3 : decode cX10_mostWords 3 = .ok (.istore_n 2, 1) := by decide +kernel
theorem dX10_mostWords_4 : decode cX10_mostWords 4 = .ok (.iload_n 2, 1) := by decide +kernel
theorem dX10_mostWords_5 : decode cX10_mostWords 5 = .ok (.aload_n 0, 1) := by decide +kernel
theorem dX10_mostWords_6 : decode cX10_mostWords 6 = .ok (.getfield 9, 3) := by decide +kernel
theorem dX10_mostWords_9 : decode cX10_mostWords 9 = .ok (.if_icmp .ge 20, 3) := by decide +kernel
theorem dX10_mostWords_12 : decode cX10_mostWords 12 = .ok (.iload_n 1, 1) := by decide +kernel
theorem dX10_mostWords_13 : decode cX10_mostWords 13 = .ok (.aload_n 0, 1) := by decide +kernel
theorem dX10_mostWords_14 : decode cX10_mostWords 14 = .ok (.getfield 28, 3) := by decide +kernel
theorem dX10_mostWords_17 : decode cX10_mostWords 17 = .ok (.iload_n 2, 1) := by decide +kernel
theorem dX10_mostWords_18 : decode cX10_mostWords 18 = .ok (.iaload, 1) := by decide +kernel
theorem dX10_mostWords_19 : decode cX10_mostWords 19 = .ok (.invokestatic 18, 3) := by decide +kernel
theorem dX10_mostWords_22 : decode cX10_mostWords 22 = .ok (.istore_n 1, 1) := by decide +kernel
theorem dX10_mostWords_23 : decode cX10_mostWords 23 = .ok (.iinc 2 1, 3) := by decide +kernel
theorem dX10_mostWords_26 : decode cX10_mostWords 26 = .ok (.goto (-22), 3) := by decide +kernel
theorem dX10_mostWords_29 : decode cX10_mostWords 29 = .ok (.iload_n 1, 1) := by decide +kernel
theorem dX10_mostWords_30 : decode cX10_mostWords 30 = .ok (.ireturn, 1) := by decide +kernel
theorem dX10_looked_0 : decode cX10_looked 0 = .ok (.aload_n 0, 1) := by decide +kernel
theorem dX10_looked_1 : decode cX10_looked 1 = .ok (.getfield 15, 3) := by decide +kernel
theorem dX10_looked_4 : decode cX10_looked 4 = .ok (.ireturn, 1) := by decide +kernel
set_option maxRecDepth 20000 in
theorem ggX10_find_X10_nextFit : GoodIn wsX10_find wsX10_nextFit := by first | exact goodIn_sub (show zy_S _ wsX10_find from (zy_c (zy_t (zy_l (zy_l (zy_t (zy_t (zy_t (zy_t (zy_t zy_h)))))))) (zy_a (zy_c (zy_t (zy_l (zy_l (zy_t (zy_t (zy_t (zy_t (zy_t (zy_t zy_h))))))))) (zy_c (zy_t (zy_l (zy_l (zy_t (zy_t (zy_t (zy_t (zy_t (zy_t (zy_t zy_h)))))))))) (zy_c (zy_t (zy_l (zy_l (zy_t (zy_t (zy_t (zy_t (zy_t (zy_t (zy_t (zy_t zy_h))))))))))) (zy_c (zy_t (zy_l (zy_l (zy_t (zy_t (zy_t (zy_t (zy_t (zy_t (zy_t (zy_t (zy_t zy_h)))))))))))) (zy_c (zy_t (zy_l (zy_l (zy_t (zy_t (zy_t (zy_t (zy_t (zy_t (zy_t (zy_t (zy_t (zy_t zy_h))))))))))))) (zy_c (zy_t (zy_l (zy_l (zy_t (zy_t (zy_t (zy_t (zy_t (zy_t (zy_t (zy_t (zy_t (zy_t (zy_t zy_h)))))))))))))) (zy_c (zy_t (zy_l (zy_l (zy_t (zy_t (zy_t (zy_t (zy_t (zy_t (zy_t (zy_t (zy_t (zy_t (zy_t (zy_t zy_h))))))))))))))) (zy_c (zy_t (zy_l (zy_l zy_h))) zy_n)))))))) (zy_p (fun _ h => (zy_t (zy_r h))))))) (by decide +kernel) | exact goodIn_r _ [6, 7, 8, 9, 10, 11, 12, 13, 1, 30, 31, 32, 33] (by decide +kernel) (by decide +kernel)
set_option maxRecDepth 20000 in
theorem gX10_find_X10_nextFit : GoodIn wsX10_find (wsV RX10 37 RX10 yX10_nextFit wsX10_nextFit) := by first | exact goodIn_app (goodIn_sub (show zy_S _ wsX10_find from (zy_c (zy_t (zy_l (zy_l (zy_t zy_h)))) (zy_c (zy_t (zy_l (zy_l (zy_t (zy_t zy_h))))) (zy_c (zy_t (zy_l (zy_l (zy_t (zy_t (zy_t zy_h)))))) (zy_c (zy_t (zy_l (zy_l (zy_t (zy_t (zy_t (zy_t zy_h))))))) zy_n))))) (by decide +kernel)) ggX10_find_X10_nextFit | exact goodIn_app (goodIn_of _ (by decide +kernel)) ggX10_find_X10_nextFit
set_option maxRecDepth 20000 in
theorem ggX10_find_X10_bestFit : GoodIn wsX10_find wsX10_bestFit := by first | exact goodIn_sub (show zy_S _ wsX10_find from (zy_c (zy_t (zy_l (zy_l (zy_t (zy_t (zy_t (zy_t (zy_t (zy_t (zy_t (zy_t (zy_t (zy_t (zy_t (zy_t (zy_t (zy_t (zy_t (zy_t zy_h))))))))))))))))))) (zy_a (zy_c (zy_t (zy_l (zy_l (zy_t (zy_t (zy_t (zy_t (zy_t (zy_t zy_h))))))))) (zy_c (zy_t (zy_l (zy_l (zy_t (zy_t (zy_t (zy_t (zy_t (zy_t (zy_t (zy_t (zy_t (zy_t (zy_t (zy_t zy_h))))))))))))))) (zy_c (zy_t (zy_l (zy_l zy_h))) (zy_c (zy_t (zy_l (zy_l (zy_t (zy_t (zy_t (zy_t (zy_t (zy_t (zy_t (zy_t (zy_t (zy_t (zy_t (zy_t (zy_t (zy_t (zy_t (zy_t (zy_t zy_h)))))))))))))))))))) (zy_c (zy_t (zy_l (zy_l (zy_t (zy_t (zy_t (zy_t (zy_t (zy_t (zy_t (zy_t (zy_t (zy_t (zy_t (zy_t (zy_t (zy_t (zy_t (zy_t (zy_t (zy_t zy_h))))))))))))))))))))) (zy_c (zy_t (zy_l (zy_l (zy_t (zy_t (zy_t (zy_t (zy_t (zy_t (zy_t (zy_t (zy_t (zy_t (zy_t (zy_t (zy_t (zy_t (zy_t (zy_t (zy_t (zy_t (zy_t zy_h)))))))))))))))))))))) (zy_c (zy_t (zy_l (zy_l (zy_t (zy_t (zy_t (zy_t zy_h))))))) (zy_c (zy_t (zy_l (zy_l (zy_t (zy_t (zy_t (zy_t (zy_t (zy_t (zy_t (zy_t (zy_t (zy_t (zy_t (zy_t (zy_t (zy_t (zy_t (zy_t (zy_t (zy_t (zy_t (zy_t zy_h))))))))))))))))))))))) (zy_c (zy_t (zy_l (zy_l (zy_t (zy_t (zy_t (zy_t (zy_t (zy_t (zy_t zy_h)))))))))) zy_n))))))))) (zy_p (fun _ h => (zy_t (zy_r h))))))) (by decide +kernel) | exact goodIn_r _ [17, 7, 13, 1, 18, 19, 20, 5, 21, 8, 30, 31, 32, 33] (by decide +kernel) (by decide +kernel)
set_option maxRecDepth 20000 in
theorem gX10_find_X10_bestFit : GoodIn wsX10_find (wsV RX10 40 RX10 yX10_bestFit wsX10_bestFit) := by first | exact goodIn_app (goodIn_sub (show zy_S _ wsX10_find from (zy_c (zy_t (zy_l (zy_l (zy_t (zy_t (zy_t (zy_t (zy_t (zy_t (zy_t (zy_t (zy_t (zy_t (zy_t (zy_t (zy_t zy_h)))))))))))))))) (zy_c (zy_t (zy_l (zy_l (zy_t (zy_t (zy_t (zy_t (zy_t (zy_t (zy_t (zy_t (zy_t (zy_t (zy_t (zy_t (zy_t (zy_t zy_h))))))))))))))))) (zy_c (zy_t (zy_l (zy_l (zy_t (zy_t (zy_t (zy_t (zy_t (zy_t (zy_t (zy_t (zy_t (zy_t (zy_t (zy_t (zy_t (zy_t (zy_t zy_h)))))))))))))))))) (zy_c (zy_t (zy_l (zy_l (zy_t (zy_t (zy_t (zy_t zy_h))))))) zy_n))))) (by decide +kernel)) ggX10_find_X10_bestFit | exact goodIn_app (goodIn_of _ (by decide +kernel)) ggX10_find_X10_bestFit
set_option maxRecDepth 20000 in
theorem ggX10_find_X10_greatestFit : GoodIn wsX10_find wsX10_greatestFit := by first | exact goodIn_sub (show zy_S _ wsX10_find from (zy_c (zy_t (zy_l (zy_r zy_h))) (zy_a (zy_c (zy_t (zy_l (zy_l (zy_t (zy_t (zy_t (zy_t (zy_t (zy_t zy_h))))))))) (zy_c (zy_t (zy_l (zy_l (zy_t (zy_t (zy_t (zy_t (zy_t (zy_t (zy_t (zy_t (zy_t (zy_t (zy_t (zy_t zy_h))))))))))))))) (zy_c (zy_t (zy_l (zy_l zy_h))) (zy_c (zy_t (zy_l (zy_l (zy_t (zy_t (zy_t (zy_t (zy_t (zy_t (zy_t (zy_t (zy_t (zy_t (zy_t (zy_t (zy_t (zy_t (zy_t (zy_t (zy_t zy_h)))))))))))))))))))) (zy_c (zy_t (zy_l (zy_l (zy_t (zy_t (zy_t (zy_t (zy_t (zy_t (zy_t (zy_t (zy_t (zy_t (zy_t (zy_t (zy_t (zy_t (zy_t (zy_t (zy_t (zy_t zy_h))))))))))))))))))))) (zy_c (zy_t (zy_l (zy_l (zy_t (zy_t (zy_t (zy_t (zy_t (zy_t (zy_t (zy_t (zy_t (zy_t (zy_t (zy_t (zy_t (zy_t (zy_t (zy_t (zy_t (zy_t (zy_t zy_h)))))))))))))))))))))) (zy_c (zy_t (zy_l (zy_l (zy_t (zy_t (zy_t (zy_t zy_h))))))) (zy_c (zy_t (zy_l (zy_l (zy_t (zy_t (zy_t (zy_t (zy_t (zy_t (zy_t (zy_t (zy_t (zy_t (zy_t (zy_t (zy_t (zy_t (zy_t (zy_t (zy_t (zy_t (zy_t (zy_t zy_h))))))))))))))))))))))) (zy_c (zy_t (zy_l (zy_l (zy_t (zy_t (zy_t (zy_t (zy_t (zy_t (zy_t zy_h)))))))))) zy_n))))))))) (zy_p (fun _ h => (zy_t (zy_r h))))))) (by decide +kernel) | exact goodIn_r _ [25, 7, 13, 1, 18, 19, 20, 5, 21, 8, 30, 31, 32, 33] (by decide +kernel) (by decide +kernel)
set_option maxRecDepth 20000 in
theorem gX10_find_X10_greatestFit : GoodIn wsX10_find (wsV RX10 44 RX10 yX10_greatestFit wsX10_greatestFit) := by first | exact goodIn_app (goodIn_sub (show zy_S _ wsX10_find from (zy_c (zy_t (zy_l (zy_l (zy_t (zy_t (zy_t (zy_t (zy_t (zy_t (zy_t (zy_t (zy_t (zy_t (zy_t (zy_t (zy_t (zy_t (zy_t (zy_t (zy_t (zy_t (zy_t (zy_t (zy_t zy_h)))))))))))))))))))))))) (zy_c (zy_t (zy_l (zy_l (zy_t (zy_t (zy_t (zy_t (zy_t (zy_t (zy_t (zy_t (zy_t (zy_t (zy_t (zy_t (zy_t (zy_t (zy_t (zy_t (zy_t (zy_t (zy_t (zy_t (zy_t (zy_t zy_h))))))))))))))))))))))))) (zy_c (zy_t (zy_l (zy_l (zy_t (zy_t (zy_t (zy_t (zy_t (zy_t (zy_t (zy_t (zy_t (zy_t (zy_t (zy_t (zy_t (zy_t (zy_t (zy_t (zy_t (zy_t (zy_t (zy_t (zy_t (zy_t (zy_t zy_h)))))))))))))))))))))))))) (zy_c (zy_t (zy_l (zy_l (zy_t (zy_t (zy_t (zy_t zy_h))))))) zy_n))))) (by decide +kernel)) ggX10_find_X10_greatestFit | exact goodIn_app (goodIn_of _ (by decide +kernel)) ggX10_find_X10_greatestFit
set_option maxRecDepth 20000 in
theorem ggX10_find_X10_firstFit : GoodIn wsX10_find wsX10_firstFit := by first | exact goodIn_sub (show zy_S _ wsX10_find from (zy_c (zy_t (zy_l (zy_r (zy_t (zy_t (zy_t (zy_t zy_h))))))) (zy_a (zy_c (zy_t (zy_l (zy_l (zy_t (zy_t (zy_t (zy_t (zy_t (zy_t zy_h))))))))) (zy_c (zy_t (zy_l (zy_l zy_h))) (zy_c (zy_t (zy_l (zy_l (zy_t (zy_t (zy_t (zy_t (zy_t (zy_t (zy_t (zy_t (zy_t (zy_t (zy_t (zy_t zy_h))))))))))))))) (zy_c (zy_t (zy_l (zy_l (zy_t (zy_t (zy_t (zy_t (zy_t (zy_t (zy_t zy_h)))))))))) zy_n)))) (zy_p (fun _ h => (zy_t (zy_r h))))))) (by decide +kernel) | exact goodIn_r _ [29, 7, 1, 13, 8, 30, 31, 32, 33] (by decide +kernel) (by decide +kernel)
set_option maxRecDepth 20000 in
theorem gX10_find_X10_firstFit : GoodIn wsX10_find (wsV RX10 47 RX10 yX10_firstFit wsX10_firstFit) := by first | exact goodIn_app (goodIn_sub (show zy_S _ wsX10_find from (zy_c (zy_t (zy_l (zy_r (zy_t zy_h)))) (zy_c (zy_t (zy_l (zy_r (zy_t (zy_t zy_h))))) (zy_c (zy_t (zy_l (zy_r (zy_t (zy_t (zy_t zy_h)))))) (zy_c (zy_t (zy_l (zy_l (zy_t (zy_t (zy_t (zy_t zy_h))))))) zy_n))))) (by decide +kernel)) ggX10_find_X10_firstFit | exact goodIn_app (goodIn_of _ (by decide +kernel)) ggX10_find_X10_firstFit
theorem dX10_find_0 : decode cX10_find 0 = .ok (.aload_n 0, 1) := by decide +kernel
theorem dX10_find_1 : decode cX10_find 1 = .ok (.iconst 0, 1) := by decide +kernel
theorem dX10_find_2 : decode cX10_find 2 = .ok (.putfield 15, 3) := by decide +kernel
theorem dX10_find_5 : decode cX10_find 5 = .ok (.iload_n 1, 1) := by decide +kernel
theorem dX10_find_6 : decode cX10_find 6 = .ok (.tableswitch 45 1 3 #[26, 33, 39], 26) := by decide +kernel
theorem dX10_find_32 : decode cX10_find 32 = .ok (.aload_n 0, 1) := by decide +kernel
theorem dX10_find_33 : decode cX10_find 33 = .ok (.iload_n 2, 1) := by decide +kernel
theorem dX10_find_34 : decode cX10_find 34 = .ok (.iload_n 3, 1) := by decide +kernel
theorem dX10_find_35 : decode cX10_find 35 = .ok (.invokevirtual 37, 3) := by decide +kernel
theorem dX10_find_38 : decode cX10_find 38 = .ok (.ireturn, 1) := by decide +kernel
theorem dX10_find_39 : decode cX10_find 39 = .ok (.aload_n 0, 1) := by decide +kernel
theorem dX10_find_40 : decode cX10_find 40 = .ok (.iload_n 2, 1) := by decide +kernel
theorem dX10_find_41 : decode cX10_find 41 = .ok (.invokevirtual 40, 3) := by decide +kernel
theorem dX10_find_44 : decode cX10_find 44 = .ok (.ireturn, 1) := by decide +kernel
theorem dX10_find_45 : decode cX10_find 45 = .ok (.aload_n 0, 1) := by decide +kernel
theorem dX10_find_46 : decode cX10_find 46 = .ok (.iload_n 2, 1) := by decide +kernel
theorem dX10_find_47 : decode cX10_find 47 = .ok (.invokevirtual 44, 3) := by decide +kernel
theorem dX10_find_50 : decode cX10_find 50 = .ok (.ireturn, 1) := by decide +kernel
theorem dX10_find_51 : decode cX10_find 51 = .ok (.aload_n 0, 1) := by decide +kernel
theorem dX10_find_52 : decode cX10_find 52 = .ok (.iload_n 2, 1) := by decide +kernel
theorem dX10_find_53 : decode cX10_find 53 = .ok (.invokevirtual 47, 3) := by decide +kernel
theorem dX10_find_56 : decode cX10_find 56 = .ok (.ireturn, 1) := by decide +kernel
theorem dX10_firstFit_0 : decode cX10_firstFit 0 = .ok (.iconst 0, 1) := by decide +kernel
theorem dX10_firstFit_1 : decode cX10_firstFit 1 = .ok (.istore_n 2, 1) := by decide +kernel
theorem dX10_firstFit_2 : decode cX10_firstFit 2 = .ok (.iload_n 2, 1) := by decide +kernel
theorem dX10_firstFit_3 : decode cX10_firstFit 3 = .ok (.aload_n 0, 1) := by decide +kernel
theorem dX10_firstFit_4 : decode cX10_firstFit 4 = .ok (.getfield 9, 3) := by decide +kernel
theorem dX10_firstFit_7 : decode cX10_firstFit 7 = .ok (.if_icmp .ge 36, 3) := by decide +kernel
theorem dX10_firstFit_10 : decode cX10_firstFit 10 = .ok (.aload_n 0, 1) := by decide +kernel
theorem dX10_firstFit_11 : decode cX10_firstFit 11 = .ok (.dup, 1) := by decide +kernel
theorem dX10_firstFit_12 : decode cX10_firstFit 12 = .ok (.getfield 15, 3) := by decide +kernel
theorem dX10_firstFit_15 : decode cX10_firstFit 15 = .ok (.iconst 1, 1) := by decide +kernel
theorem dX10_firstFit_16 : decode cX10_firstFit 16 = .ok (.iadd, 1) := by decide +kernel
theorem dX10_firstFit_17 : decode cX10_firstFit 17 = .ok (.putfield 15, 3) := by decide +kernel
theorem dX10_firstFit_20 : decode cX10_firstFit 20 = .ok (.aload_n 0, 1) := by decide +kernel
theorem dX10_firstFit_21 : decode cX10_firstFit 21 = .ok (.getfield 28, 3) := by decide +kernel
theorem dX10_firstFit_24 : decode cX10_firstFit 24 = .ok (.iload_n 2, 1) := by decide +kernel
theorem dX10_firstFit_25 : decode cX10_firstFit 25 = .ok (.iaload, 1) := by decide +kernel
theorem dX10_firstFit_26 : decode cX10_firstFit 26 = .ok (.iload_n 1, 1) := by decide +kernel
theorem dX10_firstFit_27 : decode cX10_firstFit 27 = .ok (.if_icmp .lt 10, 3) := by decide +kernel
theorem dX10_firstFit_30 : decode cX10_firstFit 30 = .ok (.aload_n 0, 1) := by decide +kernel
theorem dX10_firstFit_31 : decode cX10_firstFit 31 = .ok (.getfield 24, 3) := by decide +kernel
theorem dX10_firstFit_34 : decode cX10_firstFit 34 = .ok (.iload_n 2, 1) := by decide +kernel
theorem dX10_firstFit_35 : decode cX10_firstFit 35 = .ok (.iaload, 1) := by decide +kernel
theorem dX10_firstFit_36 : decode cX10_firstFit 36 = .ok (.ireturn, 1) := by decide +kernel
theorem dX10_firstFit_37 : decode cX10_firstFit 37 = .ok (.iinc 2 1, 3) := by decide +kernel
theorem dX10_firstFit_40 : decode cX10_firstFit 40 = .ok (.goto (-38), 3) := by decide +kernel
theorem dX10_firstFit_43 : decode cX10_firstFit 43 = .ok (.iconst (-1), 1) := by decide +kernel
theorem dX10_firstFit_44 : decode cX10_firstFit 44 = .ok (.ireturn, 1) := by decide +kernel
theorem dX10_nextFit_0 : decode cX10_nextFit 0 = .ok (.iconst 0, 1) := by decide +kernel
theorem dX10_nextFit_1 : decode cX10_nextFit 1 = .ok (.istore_n 3, 1) := by decide +kernel
theorem dX10_nextFit_2 : decode cX10_nextFit 2 = .ok (.iload_n 3, 1) := by decide +kernel
theorem dX10_nextFit_3 : decode cX10_nextFit 3 = .ok (.aload_n 0, 1) := by decide +kernel
theorem dX10_nextFit_4 : decode cX10_nextFit 4 = .ok (.getfield 9, 3) := by decide +kernel
theorem dX10_nextFit_7 : decode cX10_nextFit 7 = .ok (.if_icmp .ge 63, 3) := by decide +kernel
theorem dX10_nextFit_10 : decode cX10_nextFit 10 = .ok (.aload_n 0, 1) := by decide +kernel
theorem dX10_nextFit_11 : decode cX10_nextFit 11 = .ok (.getfield 24, 3) := by decide +kernel
theorem dX10_nextFit_14 : decode cX10_nextFit 14 = .ok (.iload_n 3, 1) := by decide +kernel
theorem dX10_nextFit_15 : decode cX10_nextFit 15 = .ok (.iaload, 1) := by decide +kernel
theorem dX10_nextFit_16 : decode cX10_nextFit 16 = .ok (.iload_n 2, 1) := by decide +kernel
theorem dX10_nextFit_17 : decode cX10_nextFit 17 = .ok (.invokestatic 18, 3) := by decide +kernel
theorem dX10_nextFit_20 : decode cX10_nextFit 20 = .ok (.istore 4, 2) := by decide +kernel
theorem dX10_nextFit_22 : decode cX10_nextFit 22 = .ok (.aload_n 0, 1) := by decide +kernel
theorem dX10_nextFit_23 : decode cX10_nextFit 23 = .ok (.getfield 24, 3) := by decide +kernel
theorem dX10_nextFit_26 : decode cX10_nextFit 26 = .ok (.iload_n 3, 1) := by decide +kernel
theorem dX10_nextFit_27 : decode cX10_nextFit 27 = .ok (.iaload, 1) := by decide +kernel
theorem dX10_nextFit_28 : decode cX10_nextFit 28 = .ok (.aload_n 0, 1) := by decide +kernel
theorem dX10_nextFit_29 : decode cX10_nextFit 29 = .ok (.getfield 28, 3) := by decide +kernel
theorem dX10_nextFit_32 : decode cX10_nextFit 32 = .ok (.iload_n 3, 1) := by decide +kernel
theorem dX10_nextFit_33 : decode cX10_nextFit 33 = .ok (.iaload, 1) := by decide +kernel
theorem dX10_nextFit_34 : decode cX10_nextFit 34 = .ok (.iadd, 1) := by decide +kernel
theorem dX10_nextFit_35 : decode cX10_nextFit 35 = .ok (.iload 4, 2) := by decide +kernel
theorem dX10_nextFit_37 : decode cX10_nextFit 37 = .ok (.isub, 1) := by decide +kernel
theorem dX10_nextFit_38 : decode cX10_nextFit 38 = .ok (.istore 5, 2) := by decide +kernel
theorem dX10_nextFit_40 : decode cX10_nextFit 40 = .ok (.iload 5, 2) := by decide +kernel
theorem dX10_nextFit_42 : decode cX10_nextFit 42 = .ok (.ifCond .le 22, 3) := by decide +kernel
theorem dX10_nextFit_45 : decode cX10_nextFit 45 = .ok (.aload_n 0, 1) := by decide +kernel
theorem dX10_nextFit_46 : decode cX10_nextFit 46 = .ok (.dup, 1) := by decide +kernel
theorem dX10_nextFit_47 : decode cX10_nextFit 47 = .ok (.getfield 15, 3) := by decide +kernel
theorem dX10_nextFit_50 : decode cX10_nextFit 50 = .ok (.iconst 1, 1) := by decide +kernel
theorem dX10_nextFit_51 : decode cX10_nextFit 51 = .ok (.iadd, 1) := by decide +kernel
theorem dX10_nextFit_52 : decode cX10_nextFit 52 = .ok (.putfield 15, 3) := by decide +kernel
theorem dX10_nextFit_55 : decode cX10_nextFit 55 = .ok (.iload 5, 2) := by decide +kernel
theorem dX10_nextFit_57 : decode cX10_nextFit 57 = .ok (.iload_n 1, 1) := by decide +kernel
theorem dX10_nextFit_58 : decode cX10_nextFit 58 = .ok (.if_icmp .lt 6, 3) := by decide +kernel
theorem dX10_nextFit_61 : decode cX10_nextFit 61 = .ok (.iload 4, 2) := by decide +kernel
theorem dX10_nextFit_63 : decode cX10_nextFit 63 = .ok (.ireturn, 1) := by decide +kernel
theorem dX10_nextFit_64 : decode cX10_nextFit 64 = .ok (.iinc 3 1, 3) := by decide +kernel
theorem dX10_nextFit_67 : decode cX10_nextFit 67 = .ok (.goto (-65), 3) := by decide +kernel
theorem dX10_nextFit_70 : decode cX10_nextFit 70 = .ok (.iconst 0, 1) := by decide +kernel
theorem dX10_nextFit_71 : decode cX10_nextFit 71 = .ok (.istore_n 3, 1) := by decide +kernel
theorem dX10_nextFit_72 : decode cX10_nextFit 72 = .ok (.iload_n 3, 1) := by decide +kernel
theorem dX10_nextFit_73 : decode cX10_nextFit 73 = .ok (.aload_n 0, 1) := by decide +kernel
theorem dX10_nextFit_74 : decode cX10_nextFit 74 = .ok (.getfield 9, 3) := by decide +kernel
theorem dX10_nextFit_77 : decode cX10_nextFit 77 = .ok (.if_icmp .ge 46, 3) := by decide +kernel
theorem dX10_nextFit_80 : decode cX10_nextFit 80 = .ok (.aload_n 0, 1) := by decide +kernel
theorem dX10_nextFit_81 : decode cX10_nextFit 81 = .ok (.getfield 24, 3) := by decide +kernel
theorem dX10_nextFit_84 : decode cX10_nextFit 84 = .ok (.iload_n 3, 1) := by decide +kernel
theorem dX10_nextFit_85 : decode cX10_nextFit 85 = .ok (.iaload, 1) := by decide +kernel
theorem dX10_nextFit_86 : decode cX10_nextFit 86 = .ok (.iload_n 2, 1) := by decide +kernel
theorem dX10_nextFit_87 : decode cX10_nextFit 87 = .ok (.if_icmp .ge 36, 3) := by decide +kernel
theorem dX10_nextFit_90 : decode cX10_nextFit 90 = .ok (.aload_n 0, 1) := by decide +kernel
theorem dX10_nextFit_91 : decode cX10_nextFit 91 = .ok (.dup, 1) := by decide +kernel
theorem dX10_nextFit_92 : decode cX10_nextFit 92 = .ok (.getfield 15, 3) := by decide +kernel
theorem dX10_nextFit_95 : decode cX10_nextFit 95 = .ok (.iconst 1, 1) := by decide +kernel
theorem dX10_nextFit_96 : decode cX10_nextFit 96 = .ok (.iadd, 1) := by decide +kernel
theorem dX10_nextFit_97 : decode cX10_nextFit 97 = .ok (.putfield 15, 3) := by decide +kernel
theorem dX10_nextFit_100 : decode cX10_nextFit 100 = .ok (.aload_n 0, 1) := by decide +kernel
theorem dX10_nextFit_101 : decode cX10_nextFit 101 = .ok (.getfield 28, 3) := by decide +kernel
theorem dX10_nextFit_104 : decode cX10_nextFit 104 = .ok (.iload_n 3, 1) := by decide +kernel
theorem dX10_nextFit_105 : decode cX10_nextFit 105 = .ok (.iaload, 1) := by decide +kernel
theorem dX10_nextFit_106 : decode cX10_nextFit 106 = .ok (.iload_n 1, 1) := by decide +kernel
theorem dX10_nextFit_107 : decode cX10_nextFit 107 = .ok (.if_icmp .lt 10, 3) := by decide +kernel
theorem dX10_nextFit_110 : decode cX10_nextFit 110 = .ok (.aload_n 0, 1) := by decide +kernel
theorem dX10_nextFit_111 : decode cX10_nextFit 111 = .ok (.getfield 24, 3) := by decide +kernel
theorem dX10_nextFit_114 : decode cX10_nextFit 114 = .ok (.iload_n 3, 1) := by decide +kernel
theorem dX10_nextFit_115 : decode cX10_nextFit 115 = .ok (.iaload, 1) := by decide +kernel
theorem dX10_nextFit_116 : decode cX10_nextFit 116 = .ok (.ireturn, 1) := by decide +kernel
theorem dX10_nextFit_117 : decode cX10_nextFit 117 = .ok (.iinc 3 1, 3) := by decide +kernel
theorem dX10_nextFit_120 : decode cX10_nextFit 120 = .ok (.goto (-48), 3) := by decide +kernel
theorem dX10_nextFit_123 : decode cX10_nextFit 123 = .ok (.iconst (-1), 1) := by decide +kernel
theorem dX10_nextFit_124 : decode cX10_nextFit 124 = .ok (.ireturn, 1) := by decide +kernel
set_option maxRecDepth 20000 in
theorem ggX10_bestFit_X10_placeOf : GoodIn wsX10_bestFit wsX10_placeOf := by first | exact goodIn_sub (show zy_S _ wsX10_bestFit from (zy_c (zy_t (zy_l (zy_t (zy_t (zy_t (zy_t (zy_t (zy_t (zy_t zy_h))))))))) (zy_a (zy_c (zy_t (zy_l zy_h)) (zy_c (zy_t (zy_l (zy_t (zy_t (zy_t (zy_t (zy_t (zy_t (zy_t (zy_t zy_h)))))))))) zy_n)) (zy_p (fun _ h => (zy_t (zy_r h))))))) (by decide +kernel) | exact goodIn_r _ [8, 1, 9, 10, 11, 12, 13] (by decide +kernel) (by decide +kernel)
set_option maxRecDepth 20000 in
theorem gX10_bestFit_X10_placeOf : GoodIn wsX10_bestFit (wsV RX10 50 RX10 yX10_placeOf wsX10_placeOf) := by first | exact goodIn_app (goodIn_sub (show zy_S _ wsX10_bestFit from (zy_c (zy_t (zy_l (zy_t (zy_t (zy_t zy_h))))) (zy_c (zy_t (zy_l (zy_t (zy_t (zy_t (zy_t zy_h)))))) (zy_c (zy_t (zy_l (zy_t (zy_t (zy_t (zy_t (zy_t zy_h))))))) (zy_c (zy_t (zy_l (zy_t (zy_t (zy_t (zy_t (zy_t (zy_t zy_h)))))))) zy_n))))) (by decide +kernel)) ggX10_bestFit_X10_placeOf | exact goodIn_app (goodIn_of _ (by decide +kernel)) ggX10_bestFit_X10_placeOf
theorem dX10_bestFit_0 : decode cX10_bestFit 0 = .ok (.iconst (-1), 1) := by decide +kernel
theorem dX10_bestFit_1 : decode cX10_bestFit 1 = .ok (.istore_n 2, 1) := by decide +kernel
theorem dX10_bestFit_2 : decode cX10_bestFit 2 = .ok (.iconst 0, 1) := by decide +kernel
theorem dX10_bestFit_3 : decode cX10_bestFit 3 = .ok (.istore_n 3, 1) := by decide +kernel
theorem dX10_bestFit_4 : decode cX10_bestFit 4 = .ok (.iload_n 3, 1) := by decide +kernel
theorem dX10_bestFit_5 : decode cX10_bestFit 5 = .ok (.aload_n 0, 1) := by decide +kernel
theorem dX10_bestFit_6 : decode cX10_bestFit 6 = .ok (.getfield 9, 3) := by decide +kernel
theorem dX10_bestFit_9 : decode cX10_bestFit 9 = .ok (.if_icmp .ge 41, 3) := by decide +kernel
theorem dX10_bestFit_12 : decode cX10_bestFit 12 = .ok (.aload_n 0, 1) := by decide +kernel
theorem dX10_bestFit_13 : decode cX10_bestFit 13 = .ok (.getfield 28, 3) := by decide +kernel
theorem dX10_bestFit_16 : decode cX10_bestFit 16 = .ok (.iload_n 3, 1) := by decide +kernel
theorem dX10_bestFit_17 : decode cX10_bestFit 17 = .ok (.iaload, 1) := by decide +kernel
theorem dX10_bestFit_18 : decode cX10_bestFit 18 = .ok (.iload_n 1, 1) := by decide +kernel
theorem dX10_bestFit_19 : decode cX10_bestFit 19 = .ok (.if_icmp .lt 25, 3) := by decide +kernel
theorem dX10_bestFit_22 : decode cX10_bestFit 22 = .ok (.iload_n 2, 1) := by decide +kernel
theorem dX10_bestFit_23 : decode cX10_bestFit 23 = .ok (.iconst (-1), 1) := by decide +kernel
theorem dX10_bestFit_24 : decode cX10_bestFit 24 = .ok (.if_icmp .eq 18, 3) := by decide +kernel
theorem dX10_bestFit_27 : decode cX10_bestFit 27 = .ok (.aload_n 0, 1) := by decide +kernel
theorem dX10_bestFit_28 : decode cX10_bestFit 28 = .ok (.getfield 28, 3) := by decide +kernel
theorem dX10_bestFit_31 : decode cX10_bestFit 31 = .ok (.iload_n 3, 1) := by decide +kernel
theorem dX10_bestFit_32 : decode cX10_bestFit 32 = .ok (.iaload, 1) := by decide +kernel
theorem dX10_bestFit_33 : decode cX10_bestFit 33 = .ok (.aload_n 0, 1) := by decide +kernel
theorem dX10_bestFit_34 : decode cX10_bestFit 34 = .ok (.getfield 28, 3) := by decide +kernel
theorem dX10_bestFit_37 : decode cX10_bestFit 37 = .ok (.iload_n 2, 1) := by decide +kernel
theorem dX10_bestFit_38 : decode cX10_bestFit 38 = .ok (.iaload, 1) := by decide +kernel
theorem dX10_bestFit_39 : decode cX10_bestFit 39 = .ok (.if_icmp .ge 5, 3) := by decide +kernel
theorem dX10_bestFit_42 : decode cX10_bestFit 42 = .ok (.iload_n 3, 1) := by decide +kernel
theorem dX10_bestFit_43 : decode cX10_bestFit 43 = .ok (.istore_n 2, 1) := by decide +kernel
theorem dX10_bestFit_44 : decode cX10_bestFit 44 = .ok (.iinc 3 1, 3) := by decide +kernel
theorem dX10_bestFit_47 : decode cX10_bestFit 47 = .ok (.goto (-43), 3) := by decide +kernel
theorem dX10_bestFit_50 : decode cX10_bestFit 50 = .ok (.aload_n 0, 1) := by decide +kernel
theorem dX10_bestFit_51 : decode cX10_bestFit 51 = .ok (.aload_n 0, 1) := by decide +kernel
theorem dX10_bestFit_52 : decode cX10_bestFit 52 = .ok (.getfield 9, 3) := by decide +kernel
theorem dX10_bestFit_55 : decode cX10_bestFit 55 = .ok (.putfield 15, 3) := by decide +kernel
theorem dX10_bestFit_58 : decode cX10_bestFit 58 = .ok (.aload_n 0, 1) := by decide +kernel
theorem dX10_bestFit_59 : decode cX10_bestFit 59 = .ok (.iload_n 2, 1) := by decide +kernel
theorem dX10_bestFit_60 : decode cX10_bestFit 60 = .ok (.invokevirtual 50, 3) := by decide +kernel
theorem dX10_bestFit_63 : decode cX10_bestFit 63 = .ok (.ireturn, 1) := by decide +kernel
set_option maxRecDepth 20000 in
theorem ggX10_greatestFit_X10_placeOf : GoodIn wsX10_greatestFit wsX10_placeOf := by first | exact goodIn_sub (show zy_S _ wsX10_greatestFit from (zy_c (zy_t (zy_l (zy_t (zy_t (zy_t (zy_t (zy_t (zy_t (zy_t zy_h))))))))) (zy_a (zy_c (zy_t (zy_l zy_h)) (zy_c (zy_t (zy_l (zy_t (zy_t (zy_t (zy_t (zy_t (zy_t (zy_t (zy_t zy_h)))))))))) zy_n)) (zy_p (fun _ h => (zy_t (zy_r h))))))) (by decide +kernel) | exact goodIn_r _ [8, 1, 9, 10, 11, 12, 13] (by decide +kernel) (by decide +kernel)
set_option maxRecDepth 20000 in
theorem gX10_greatestFit_X10_placeOf : GoodIn wsX10_greatestFit (wsV RX10 50 RX10 yX10_placeOf wsX10_placeOf) := by first | exact goodIn_app (goodIn_sub (show zy_S _ wsX10_greatestFit from (zy_c (zy_t (zy_l (zy_t (zy_t (zy_t zy_h))))) (zy_c (zy_t (zy_l (zy_t (zy_t (zy_t (zy_t zy_h)))))) (zy_c (zy_t (zy_l (zy_t (zy_t (zy_t (zy_t (zy_t zy_h))))))) (zy_c (zy_t (zy_l (zy_t (zy_t (zy_t (zy_t (zy_t (zy_t zy_h)))))))) zy_n))))) (by decide +kernel)) ggX10_greatestFit_X10_placeOf | exact goodIn_app (goodIn_of _ (by decide +kernel)) ggX10_greatestFit_X10_placeOf
theorem dX10_greatestFit_0 : decode cX10_greatestFit 0 = .ok (.iconst (-1), 1) := by decide +kernel
theorem dX10_greatestFit_1 : decode cX10_greatestFit 1 = .ok (.istore_n 2, 1) := by decide +kernel
theorem dX10_greatestFit_2 : decode cX10_greatestFit 2 = .ok (.iconst 0, 1) := by decide +kernel
theorem dX10_greatestFit_3 : decode cX10_greatestFit 3 = .ok (.istore_n 3, 1) := by decide +kernel
theorem dX10_greatestFit_4 : decode cX10_greatestFit 4 = .ok (.iload_n 3, 1) := by decide +kernel
theorem dX10_greatestFit_5 : decode cX10_greatestFit 5 = .ok (.aload_n 0, 1) := by decide +kernel
theorem dX10_greatestFit_6 : decode cX10_greatestFit 6 = .ok (.getfield 9, 3) := by decide +kernel
theorem dX10_greatestFit_9 : decode cX10_greatestFit 9 = .ok (.if_icmp .ge 41, 3) := by decide +kernel
theorem dX10_greatestFit_12 : decode cX10_greatestFit 12 = .ok (.aload_n 0, 1) := by decide +kernel
theorem dX10_greatestFit_13 : decode cX10_greatestFit 13 = .ok (.getfield 28, 3) := by decide +kernel
theorem dX10_greatestFit_16 : decode cX10_greatestFit 16 = .ok (.iload_n 3, 1) := by decide +kernel
theorem dX10_greatestFit_17 : decode cX10_greatestFit 17 = .ok (.iaload, 1) := by decide +kernel
theorem dX10_greatestFit_18 : decode cX10_greatestFit 18 = .ok (.iload_n 1, 1) := by decide +kernel
theorem dX10_greatestFit_19 : decode cX10_greatestFit 19 = .ok (.if_icmp .lt 25, 3) := by decide +kernel
theorem dX10_greatestFit_22 : decode cX10_greatestFit 22 = .ok (.iload_n 2, 1) := by decide +kernel
theorem dX10_greatestFit_23 : decode cX10_greatestFit 23 = .ok (.iconst (-1), 1) := by decide +kernel
theorem dX10_greatestFit_24 : decode cX10_greatestFit 24 = .ok (.if_icmp .eq 18, 3) := by decide +kernel
theorem dX10_greatestFit_27 : decode cX10_greatestFit 27 = .ok (.aload_n 0, 1) := by decide +kernel
theorem dX10_greatestFit_28 : decode cX10_greatestFit 28 = .ok (.getfield 28, 3) := by decide +kernel
theorem dX10_greatestFit_31 : decode cX10_greatestFit 31 = .ok (.iload_n 3, 1) := by decide +kernel
theorem dX10_greatestFit_32 : decode cX10_greatestFit 32 = .ok (.iaload, 1) := by decide +kernel
theorem dX10_greatestFit_33 : decode cX10_greatestFit 33 = .ok (.aload_n 0, 1) := by decide +kernel
theorem dX10_greatestFit_34 : decode cX10_greatestFit 34 = .ok (.getfield 28, 3) := by decide +kernel
theorem dX10_greatestFit_37 : decode cX10_greatestFit 37 = .ok (.iload_n 2, 1) := by decide +kernel
theorem dX10_greatestFit_38 : decode cX10_greatestFit 38 = .ok (.iaload, 1) := by decide +kernel
theorem dX10_greatestFit_39 : decode cX10_greatestFit 39 = .ok (.if_icmp .le 5, 3) := by decide +kernel
theorem dX10_greatestFit_42 : decode cX10_greatestFit 42 = .ok (.iload_n 3, 1) := by decide +kernel
theorem dX10_greatestFit_43 : decode cX10_greatestFit 43 = .ok (.istore_n 2, 1) := by decide +kernel
theorem dX10_greatestFit_44 : decode cX10_greatestFit 44 = .ok (.iinc 3 1, 3) := by decide +kernel
theorem dX10_greatestFit_47 : decode cX10_greatestFit 47 = .ok (.goto (-43), 3) := by decide +kernel
theorem dX10_greatestFit_50 : decode cX10_greatestFit 50 = .ok (.aload_n 0, 1) := by decide +kernel
theorem dX10_greatestFit_51 : decode cX10_greatestFit 51 = .ok (.aload_n 0, 1) := by decide +kernel
theorem dX10_greatestFit_52 : decode cX10_greatestFit 52 = .ok (.getfield 9, 3) := by decide +kernel
theorem dX10_greatestFit_55 : decode cX10_greatestFit 55 = .ok (.putfield 15, 3) := by decide +kernel
theorem dX10_greatestFit_58 : decode cX10_greatestFit 58 = .ok (.aload_n 0, 1) := by decide +kernel
theorem dX10_greatestFit_59 : decode cX10_greatestFit 59 = .ok (.iload_n 2, 1) := by decide +kernel
theorem dX10_greatestFit_60 : decode cX10_greatestFit 60 = .ok (.invokevirtual 50, 3) := by decide +kernel
theorem dX10_greatestFit_63 : decode cX10_greatestFit 63 = .ok (.ireturn, 1) := by decide +kernel
theorem dX11_powerFrom_0 : decode cX11_powerFrom 0 = .ok (.iconst 1, 1) := by decide +kernel
theorem dX11_powerFrom_1 : decode cX11_powerFrom 1 = .ok (.istore_n 1, 1) := by decide +kernel
theorem dX11_powerFrom_2 : decode cX11_powerFrom 2 = .ok (.iload_n 1, 1) := by decide +kernel
theorem dX11_powerFrom_3 : decode cX11_powerFrom 3 = .ok (.sipush 1024, 3) := by decide +kernel
theorem dX11_powerFrom_6 : decode cX11_powerFrom 6 = .ok (.if_icmp .ge 17, 3) := by decide +kernel
theorem dX11_powerFrom_9 : decode cX11_powerFrom 9 = .ok (.iload_n 1, 1) := by decide +kernel
theorem dX11_powerFrom_10 : decode cX11_powerFrom 10 = .ok (.iload_n 0, 1) := by decide +kernel
theorem dX11_powerFrom_11 : decode cX11_powerFrom 11 = .ok (.if_icmp .lt 5, 3) := by decide +kernel
theorem dX11_powerFrom_14 : decode cX11_powerFrom 14 = .ok (.iload_n 1, 1) := by decide +kernel
theorem dX11_powerFrom_15 : decode cX11_powerFrom 15 = .ok (.ireturn, 1) := by decide +kernel
theorem dX11_powerFrom_16 : decode cX11_powerFrom 16 = .ok (.iload_n 1, 1) := by decide +kernel
theorem dX11_powerFrom_17 : decode cX11_powerFrom 17 = .ok (.iload_n 1, 1) := by decide +kernel
theorem dX11_powerFrom_18 : decode cX11_powerFrom 18 = .ok (.iadd, 1) := by decide +kernel
theorem dX11_powerFrom_19 : decode cX11_powerFrom 19 = .ok (.istore_n 1, 1) := by decide +kernel
theorem dX11_powerFrom_20 : decode cX11_powerFrom 20 = .ok (.goto (-18), 3) := by decide +kernel
theorem dX11_powerFrom_23 : decode cX11_powerFrom 23 = .ok (.sipush 1024, 3) := by decide +kernel
theorem dX11_powerFrom_26 : decode cX11_powerFrom 26 = .ok (.ireturn, 1) := by decide +kernel
theorem dJ6_bitCount_0f7a4_0 : decode cJ6_bitCount_0f7a4 0 = .ok (.iload_n 0, 1) := by decide +kernel
theorem dJ6_bitCount_0f7a4_1 : decode cJ6_bitCount_0f7a4 1 = .ok (.iload_n 0, 1) := by decide +kernel
theorem dJ6_bitCount_0f7a4_2 : decode cJ6_bitCount_0f7a4 2 = .ok (.iconst 1, 1) := by decide +kernel
theorem dJ6_bitCount_0f7a4_3 : decode cJ6_bitCount_0f7a4 3 = .ok (.iushr, 1) := by decide +kernel
theorem dJ6_bitCount_0f7a4_4 : decode cJ6_bitCount_0f7a4 4 = .ok (.ldc_w 265, 3) := by decide +kernel
theorem dJ6_bitCount_0f7a4_7 : decode cJ6_bitCount_0f7a4 7 = .ok (.iand, 1) := by decide +kernel
theorem dJ6_bitCount_0f7a4_8 : decode cJ6_bitCount_0f7a4 8 = .ok (.isub, 1) := by decide +kernel
theorem dJ6_bitCount_0f7a4_9 : decode cJ6_bitCount_0f7a4 9 = .ok (.istore_n 0, 1) := by decide +kernel
theorem dJ6_bitCount_0f7a4_10 : decode cJ6_bitCount_0f7a4 10 = .ok (.iload_n 0, 1) := by decide +kernel
theorem dJ6_bitCount_0f7a4_11 : decode cJ6_bitCount_0f7a4 11 = .ok (.ldc_w 266, 3) := by decide +kernel
theorem dJ6_bitCount_0f7a4_14 : decode cJ6_bitCount_0f7a4 14 = .ok (.iand, 1) := by decide +kernel
theorem dJ6_bitCount_0f7a4_15 : decode cJ6_bitCount_0f7a4 15 = .ok (.iload_n 0, 1) := by decide +kernel
theorem dJ6_bitCount_0f7a4_16 : decode cJ6_bitCount_0f7a4 16 = .ok (.iconst 2, 1) := by decide +kernel
theorem dJ6_bitCount_0f7a4_17 : decode cJ6_bitCount_0f7a4 17 = .ok (.iushr, 1) := by decide +kernel
theorem dJ6_bitCount_0f7a4_18 : decode cJ6_bitCount_0f7a4 18 = .ok (.ldc_w 266, 3) := by decide +kernel
theorem dJ6_bitCount_0f7a4_21 : decode cJ6_bitCount_0f7a4 21 = .ok (.iand, 1) := by decide +kernel
theorem dJ6_bitCount_0f7a4_22 : decode cJ6_bitCount_0f7a4 22 = .ok (.iadd, 1) := by decide +kernel
theorem dJ6_bitCount_0f7a4_23 : decode cJ6_bitCount_0f7a4 23 = .ok (.istore_n 0, 1) := by decide +kernel
theorem dJ6_bitCount_0f7a4_24 : decode cJ6_bitCount_0f7a4 24 = .ok (.iload_n 0, 1) := by decide +kernel
theorem dJ6_bitCount_0f7a4_25 : decode cJ6_bitCount_0f7a4 25 = .ok (.iload_n 0, 1) := by decide +kernel
theorem dJ6_bitCount_0f7a4_26 : decode cJ6_bitCount_0f7a4 26 = .ok (.iconst 4, 1) := by decide +kernel
theorem dJ6_bitCount_0f7a4_27 : decode cJ6_bitCount_0f7a4 27 = .ok (.iushr, 1) := by decide +kernel
theorem dJ6_bitCount_0f7a4_28 : decode cJ6_bitCount_0f7a4 28 = .ok (.iadd, 1) := by decide +kernel
theorem dJ6_bitCount_0f7a4_29 : decode cJ6_bitCount_0f7a4 29 = .ok (.ldc_w 267, 3) := by decide +kernel
theorem dJ6_bitCount_0f7a4_32 : decode cJ6_bitCount_0f7a4 32 = .ok (.iand, 1) := by decide +kernel
theorem dJ6_bitCount_0f7a4_33 : decode cJ6_bitCount_0f7a4 33 = .ok (.istore_n 0, 1) := by decide +kernel
theorem dJ6_bitCount_0f7a4_34 : decode cJ6_bitCount_0f7a4 34 = .ok (.iload_n 0, 1) := by decide +kernel
theorem dJ6_bitCount_0f7a4_35 : decode cJ6_bitCount_0f7a4 35 = .ok (.iload_n 0, 1) := by decide +kernel
theorem dJ6_bitCount_0f7a4_36 : decode cJ6_bitCount_0f7a4 36 = .ok (.bipush 8, 2) := by decide +kernel
theorem dJ6_bitCount_0f7a4_38 : decode cJ6_bitCount_0f7a4 38 = .ok (.iushr, 1) := by decide +kernel
theorem dJ6_bitCount_0f7a4_39 : decode cJ6_bitCount_0f7a4 39 = .ok (.iadd, 1) := by decide +kernel
theorem dJ6_bitCount_0f7a4_40 : decode cJ6_bitCount_0f7a4 40 = .ok (.istore_n 0, 1) := by decide +kernel
theorem dJ6_bitCount_0f7a4_41 : decode cJ6_bitCount_0f7a4 41 = .ok (.iload_n 0, 1) := by decide +kernel
theorem dJ6_bitCount_0f7a4_42 : decode cJ6_bitCount_0f7a4 42 = .ok (.iload_n 0, 1) := by decide +kernel
theorem dJ6_bitCount_0f7a4_43 : decode cJ6_bitCount_0f7a4 43 = .ok (.bipush 16, 2) := by decide +kernel
theorem dJ6_bitCount_0f7a4_45 : decode cJ6_bitCount_0f7a4 45 = .ok (.iushr, 1) := by decide +kernel
theorem dJ6_bitCount_0f7a4_46 : decode cJ6_bitCount_0f7a4 46 = .ok (.iadd, 1) := by decide +kernel
theorem dJ6_bitCount_0f7a4_47 : decode cJ6_bitCount_0f7a4 47 = .ok (.istore_n 0, 1) := by decide +kernel
theorem dJ6_bitCount_0f7a4_48 : decode cJ6_bitCount_0f7a4 48 = .ok (.iload_n 0, 1) := by decide +kernel
theorem dJ6_bitCount_0f7a4_49 : decode cJ6_bitCount_0f7a4 49 = .ok (.bipush 63, 2) := by decide +kernel
theorem dJ6_bitCount_0f7a4_51 : decode cJ6_bitCount_0f7a4 51 = .ok (.iand, 1) := by decide +kernel
theorem dJ6_bitCount_0f7a4_52 : decode cJ6_bitCount_0f7a4 52 = .ok (.ireturn, 1) := by decide +kernel
theorem dJ9_max_7cf53_0 : decode cJ9_max_7cf53 0 = .ok (.iload_n 0, 1) := by decide +kernel
theorem dJ9_max_7cf53_1 : decode cJ9_max_7cf53 1 = .ok (.iload_n 1, 1) := by decide +kernel
theorem dJ9_max_7cf53_2 : decode cJ9_max_7cf53 2 = .ok (.if_icmp .lt 7, 3) := by decide +kernel
theorem dJ9_max_7cf53_5 : decode cJ9_max_7cf53 5 = .ok (.iload_n 0, 1) := by decide +kernel
theorem dJ9_max_7cf53_6 : decode cJ9_max_7cf53 6 = .ok (.goto 4, 3) := by decide +kernel
theorem dJ9_max_7cf53_9 : decode cJ9_max_7cf53 9 = .ok (.iload_n 1, 1) := by decide +kernel
theorem dJ9_max_7cf53_10 : decode cJ9_max_7cf53 10 = .ok (.ireturn, 1) := by decide +kernel
theorem dJ9_min_7cf53_0 : decode cJ9_min_7cf53 0 = .ok (.iload_n 0, 1) := by decide +kernel
theorem dJ9_min_7cf53_1 : decode cJ9_min_7cf53 1 = .ok (.iload_n 1, 1) := by decide +kernel
theorem dJ9_min_7cf53_2 : decode cJ9_min_7cf53 2 = .ok (.if_icmp .gt 7, 3) := by decide +kernel
theorem dJ9_min_7cf53_5 : decode cJ9_min_7cf53 5 = .ok (.iload_n 0, 1) := by decide +kernel
theorem dJ9_min_7cf53_6 : decode cJ9_min_7cf53 6 = .ok (.goto 4, 3) := by decide +kernel
theorem dJ9_min_7cf53_9 : decode cJ9_min_7cf53 9 = .ok (.iload_n 1, 1) := by decide +kernel
theorem dJ9_min_7cf53_10 : decode cJ9_min_7cf53 10 = .ok (.ireturn, 1) := by decide +kernel
theorem dJ7_fill_53178_0 : decode cJ7_fill_53178 0 = .ok (.iconst 0, 1) := by decide +kernel
theorem dJ7_fill_53178_1 : decode cJ7_fill_53178 1 = .ok (.istore_n 2, 1) := by decide +kernel
theorem dJ7_fill_53178_2 : decode cJ7_fill_53178 2 = .ok (.aload_n 0, 1) := by decide +kernel
theorem dJ7_fill_53178_3 : decode cJ7_fill_53178 3 = .ok (.arraylength, 1) := by decide +kernel
theorem dJ7_fill_53178_4 : decode cJ7_fill_53178 4 = .ok (.istore_n 3, 1) := by decide +kernel
theorem dJ7_fill_53178_5 : decode cJ7_fill_53178 5 = .ok (.iload_n 2, 1) := by decide +kernel
theorem dJ7_fill_53178_6 : decode cJ7_fill_53178 6 = .ok (.iload_n 3, 1) := by decide +kernel
theorem dJ7_fill_53178_7 : decode cJ7_fill_53178 7 = .ok (.if_icmp .ge 13, 3) := by decide +kernel
theorem dJ7_fill_53178_10 : decode cJ7_fill_53178 10 = .ok (.aload_n 0, 1) := by decide +kernel
theorem dJ7_fill_53178_11 : decode cJ7_fill_53178 11 = .ok (.iload_n 2, 1) := by decide +kernel
theorem dJ7_fill_53178_12 : decode cJ7_fill_53178 12 = .ok (.iload_n 1, 1) := by decide +kernel
theorem dJ7_fill_53178_13 : decode cJ7_fill_53178 13 = .ok (.iastore, 1) := by decide +kernel
theorem dJ7_fill_53178_14 : decode cJ7_fill_53178 14 = .ok (.iinc 2 1, 3) := by decide +kernel
theorem dJ7_fill_53178_17 : decode cJ7_fill_53178 17 = .ok (.goto (-12), 3) := by decide +kernel
theorem dJ7_fill_53178_20 : decode cJ7_fill_53178 20 = .ok (.return_, 1) := by decide +kernel
