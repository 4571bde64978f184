def wsX12_thrown : List Cond := .code yX12_thrown cX12_thrown 1 (some .int) :: ([.fieldLink RX12 1 "RoomFormsModel" "thrown" "I"] ++ wsX120)
def wsX12_fails : List Cond := .code yX12_fails cX12_fails 2 (some .boolean) :: ([.fieldLink RX12 1 "RoomFormsModel" "thrown" "I"] ++ wsX120)
def wsX12_init_r1 : List Cond := [Cond.methodLink RX12 7 objectInit, Cond.instanceMethod objectInit, Cond.code objectInit ⟨#[0xb1]⟩ 1 none, Cond.fieldLink RX12 13 "RoomFormsModel" "form" "I", Cond.arrayClass .int, Cond.fieldLink RX12 16 "RoomFormsModel" "owner" "[I", Cond.fieldLink RX12 20 "RoomFormsModel" "number" "[I", Cond.fieldLink RX12 23 "RoomFormsModel" "place" "[I", Cond.fieldLink RX12 26 "RoomFormsModel" "span" "[I", Cond.fieldLink RX12 29 "RoomFormsModel" "asks" "[I", Cond.fieldLink RX12 32 "RoomFormsModel" "piece" "[I", Cond.fieldLink RX12 35 "RoomFormsModel" "page" "[I", Cond.constant RX12 38 (45056), Cond.fieldLink RX12 39 "RoomFormsModel" "list" "[I", Cond.fieldLink RX12 42 "RoomFormsModel" "listMany" "[I", Cond.fieldLink RX12 45 "RoomFormsModel" "stackPlace" "[I", Cond.fieldLink RX12 48 "RoomFormsModel" "stackSpan" "[I", Cond.arrayClass .boolean, Cond.fieldLink RX12 51 "RoomFormsModel" "isGone" "[Z", Cond.fieldLink RX12 55 "RoomFormsModel" "quick" "[I", Cond.fieldLink RX12 58 "RoomFormsModel" "quickMany" "[I", Cond.arrayClass .long, Cond.fieldLink RX12 61 "RoomFormsModel" "room" "[J", Cond.constant RX12 65 (65536)]
def wsX12_init_r2 : List Cond := [Cond.fieldLink RX12 66 "RoomFormsModel" "slots" "[I", Cond.fieldLink RX12 69 "RoomFormsModel" "has" "[I"]
def wsX12_init : List Cond := .code yX12_init cX12_init 1 none :: ((wsX12_init_r1 ++ wsX12_init_r2) ++ wsX120)
def wsX12_listOf : List Cond := .code yX12_listOf cX12_listOf 2 (some .int) :: ([])
def wsX12_toList : List Cond := .code yX12_toList cX12_toList 5 none :: ([.fieldLink RX12 42 "RoomFormsModel" "listMany" "[I", .fieldLink RX12 39 "RoomFormsModel" "list" "[I", .methodLink RX12 133 yX12_listOf, .static yX12_listOf, .initialized RX12, .code yX12_listOf cX12_listOf 2 (some .int)] ++ wsX120)
def wsX12_open_r1 : List Cond := [Cond.fieldLink RX12 13 "RoomFormsModel" "form" "I", Cond.fieldLink RX12 76 "RoomFormsModel" "words" "I", Cond.fieldLink RX12 79 "RoomFormsModel" "blocks" "I", Cond.fieldLink RX12 82 "RoomFormsModel" "numbers" "I", Cond.fieldLink RX12 85 "RoomFormsModel" "asked" "I", Cond.fieldLink RX12 88 "RoomFormsModel" "spans" "I", Cond.fieldLink RX12 91 "RoomFormsModel" "looked" "I", Cond.fieldLink RX12 94 "RoomFormsModel" "lastEnd" "I", Cond.fieldLink RX12 97 "RoomFormsModel" "top" "I", Cond.fieldLink RX12 100 "RoomFormsModel" "stacked" "I", Cond.fieldLink RX12 16 "RoomFormsModel" "owner" "[I", Cond.fieldLink RX12 32 "RoomFormsModel" "piece" "[I", Cond.fieldLink RX12 103 "RoomFormsModel" "whole" "I", Cond.fieldLink RX12 106 "RoomFormsModel" "pages" "I", Cond.fieldLink RX12 35 "RoomFormsModel" "page" "[I", Cond.fieldLink RX12 42 "RoomFormsModel" "listMany" "[I", Cond.fieldLink RX12 58 "RoomFormsModel" "quickMany" "[I", Cond.methodLink RX12 72 yX12_fails, Cond.instanceMethod yX12_fails, Cond.selects RX12 yX12_fails yX12_fails, Cond.initialized RX12, Cond.code yX12_fails cX12_fails 2 (some .boolean), Cond.fieldLink RX12 1 "RoomFormsModel" "thrown" "I", Cond.methodLink RX12 109 yX12_toList]
def wsX12_open_r2 : List Cond := [Cond.instanceMethod yX12_toList, Cond.selects RX12 yX12_toList yX12_toList, Cond.code yX12_toList cX12_toList 5 none, Cond.fieldLink RX12 39 "RoomFormsModel" "list" "[I", Cond.methodLink RX12 133 yX12_listOf, Cond.static yX12_listOf, Cond.code yX12_listOf cX12_listOf 2 (some .int)]
def wsX12_open : List Cond := .code yX12_open cX12_open 4 none :: ((wsX12_open_r1 ++ wsX12_open_r2) ++ wsX120)
def wsX12_runFrom : List Cond := .code yX12_runFrom cX12_runFrom 4 (some .int) :: ([.fieldLink RX12 76 "RoomFormsModel" "words" "I", .fieldLink RX12 16 "RoomFormsModel" "owner" "[I", .fieldLink RX12 113 "RoomFormsModel" "runSize" "I"] ++ wsX120)
def wsX12_firstRun : List Cond := .code yX12_firstRun cX12_firstRun 5 (some .int) :: ([.fieldLink RX12 91 "RoomFormsModel" "looked" "I", .fieldLink RX12 113 "RoomFormsModel" "runSize" "I", .methodLink RX12 116 yX12_runFrom, .instanceMethod yX12_runFrom, .selects RX12 yX12_runFrom yX12_runFrom, .initialized RX12, .code yX12_runFrom cX12_runFrom 4 (some .int), .fieldLink RX12 76 "RoomFormsModel" "words" "I", .fieldLink RX12 16 "RoomFormsModel" "owner" "[I"] ++ wsX120)
def wsX12_bestRun : List Cond := .code yX12_bestRun cX12_bestRun 5 (some .int) :: ([.fieldLink RX12 91 "RoomFormsModel" "looked" "I", .fieldLink RX12 113 "RoomFormsModel" "runSize" "I", .fieldLink RX12 13 "RoomFormsModel" "form" "I", .methodLink RX12 116 yX12_runFrom, .instanceMethod yX12_runFrom, .selects RX12 yX12_runFrom yX12_runFrom, .initialized RX12, .code yX12_runFrom cX12_runFrom 4 (some .int), .fieldLink RX12 76 "RoomFormsModel" "words" "I", .fieldLink RX12 16 "RoomFormsModel" "owner" "[I"] ++ wsX120)
def wsX12_halves : List Cond := .code yX12_halves cX12_halves 4 (some .int) :: ([.fieldLink RX12 76 "RoomFormsModel" "words" "I", .fieldLink RX12 32 "RoomFormsModel" "piece" "[I", .fieldLink RX12 91 "RoomFormsModel" "looked" "I"] ++ wsX120)
def wsX12_join : List Cond := .code yX12_join cX12_join 7 none :: ([.fieldLink RX12 103 "RoomFormsModel" "whole" "I", .fieldLink RX12 32 "RoomFormsModel" "piece" "[I"] ++ wsX120)
def wsX12_power : List Cond := .code yX12_power cX12_power 2 (some .int) :: ([])
def wsX12_isFree : List Cond := .code yX12_isFree cX12_isFree 4 (some .boolean) :: ([.fieldLink RX12 16 "RoomFormsModel" "owner" "[I"] ++ wsX120)
def wsX12_classes : List Cond := .code yX12_classes cX12_classes 4 (some .int) :: ([.fieldLink RX12 106 "RoomFormsModel" "pages" "I", .fieldLink RX12 35 "RoomFormsModel" "page" "[I", .fieldLink RX12 91 "RoomFormsModel" "looked" "I", .methodLink RX12 120 yX12_isFree, .instanceMethod yX12_isFree, .selects RX12 yX12_isFree yX12_isFree, .initialized RX12, .code yX12_isFree cX12_isFree 4 (some .boolean), .fieldLink RX12 16 "RoomFormsModel" "owner" "[I"] ++ wsX120)
def wsX12_rowOfPages : List Cond := .code yX12_rowOfPages cX12_rowOfPages 5 (some .int) :: ([.fieldLink RX12 106 "RoomFormsModel" "pages" "I", .fieldLink RX12 91 "RoomFormsModel" "looked" "I", .fieldLink RX12 35 "RoomFormsModel" "page" "[I"] ++ wsX120)
def wsX12_bits : List Cond := .code yX12_bits cX12_bits 4 (some .int) :: ([.methodLink RX12 127 Lib.Math.min.name, .static Lib.Math.min.name, .initialized "java/lang/Math", .code Lib.Math.min.name Lib.Math.min.code 2 (some .int), .fieldLink RX12 76 "RoomFormsModel" "words" "I", .fieldLink RX12 91 "RoomFormsModel" "looked" "I", .methodLink RX12 124 yX12_power, .static yX12_power, .initialized RX12, .code yX12_power cX12_power 2 (some .int), .methodLink RX12 120 yX12_isFree, .instanceMethod yX12_isFree, .selects RX12 yX12_isFree yX12_isFree, .code yX12_isFree cX12_isFree 4 (some .boolean), .fieldLink RX12 16 "RoomFormsModel" "owner" "[I"] ++ wsX120)
def wsX12_fromList : List Cond := .code yX12_fromList cX12_fromList 5 none :: ([.fieldLink RX12 39 "RoomFormsModel" "list" "[I", .fieldLink RX12 42 "RoomFormsModel" "listMany" "[I", .methodLink RX12 133 yX12_listOf, .static yX12_listOf, .initialized RX12, .code yX12_listOf cX12_listOf 2 (some .int)] ++ wsX120)
def wsX12_sizeAt : List Cond := .code yX12_sizeAt cX12_sizeAt 3 (some .int) :: ([.fieldLink RX12 76 "RoomFormsModel" "words" "I", .fieldLink RX12 16 "RoomFormsModel" "owner" "[I"] ++ wsX120)
def wsX12_levels : List Cond := .code yX12_levels cX12_levels 5 (some .int) :: ([.fieldLink RX12 42 "RoomFormsModel" "listMany" "[I", .fieldLink RX12 91 "RoomFormsModel" "looked" "I", .fieldLink RX12 39 "RoomFormsModel" "list" "[I", .methodLink RX12 133 yX12_listOf, .static yX12_listOf, .initialized RX12, .code yX12_listOf cX12_listOf 2 (some .int), .methodLink RX12 136 yX12_sizeAt, .instanceMethod yX12_sizeAt, .selects RX12 yX12_sizeAt yX12_sizeAt, .code yX12_sizeAt cX12_sizeAt 3 (some .int), .fieldLink RX12 76 "RoomFormsModel" "words" "I", .fieldLink RX12 16 "RoomFormsModel" "owner" "[I", .methodLink RX12 139 yX12_fromList, .instanceMethod yX12_fromList, .selects RX12 yX12_fromList yX12_fromList, .code yX12_fromList cX12_fromList 5 none, .methodLink RX12 109 yX12_toList, .instanceMethod yX12_toList, .selects RX12 yX12_toList yX12_toList, .code yX12_toList cX12_toList 5 none] ++ wsX120)
def wsX12_joinRuns : List Cond := .code yX12_joinRuns cX12_joinRuns 5 none :: ([.fieldLink RX12 16 "RoomFormsModel" "owner" "[I", .methodLink RX12 136 yX12_sizeAt, .instanceMethod yX12_sizeAt, .selects RX12 yX12_sizeAt yX12_sizeAt, .initialized RX12, .code yX12_sizeAt cX12_sizeAt 3 (some .int), .fieldLink RX12 76 "RoomFormsModel" "words" "I", .methodLink RX12 139 yX12_fromList, .instanceMethod yX12_fromList, .selects RX12 yX12_fromList yX12_fromList, .code yX12_fromList cX12_fromList 5 none, .fieldLink RX12 39 "RoomFormsModel" "list" "[I", .fieldLink RX12 42 "RoomFormsModel" "listMany" "[I", .methodLink RX12 133 yX12_listOf, .static yX12_listOf, .code yX12_listOf cX12_listOf 2 (some .int), .methodLink RX12 109 yX12_toList, .instanceMethod yX12_toList, .selects RX12 yX12_toList yX12_toList, .code yX12_toList cX12_toList 5 none] ++ wsX120)
def wsX12_emptyQuick : List Cond := .code yX12_emptyQuick cX12_emptyQuick 4 none :: ([.fieldLink RX12 58 "RoomFormsModel" "quickMany" "[I", .fieldLink RX12 16 "RoomFormsModel" "owner" "[I", .fieldLink RX12 55 "RoomFormsModel" "quick" "[I"] ++ wsX120)
def wsX12_quick : List Cond := .code yX12_quick cX12_quick 4 (some .int) :: ([.fieldLink RX12 58 "RoomFormsModel" "quickMany" "[I", .fieldLink RX12 55 "RoomFormsModel" "quick" "[I", .fieldLink RX12 76 "RoomFormsModel" "words" "I", .methodLink RX12 142 yX12_firstRun, .instanceMethod yX12_firstRun, .selects RX12 yX12_firstRun yX12_firstRun, .initialized RX12, .code yX12_firstRun cX12_firstRun 5 (some .int), .fieldLink RX12 91 "RoomFormsModel" "looked" "I", .fieldLink RX12 113 "RoomFormsModel" "runSize" "I", .methodLink RX12 116 yX12_runFrom, .instanceMethod yX12_runFrom, .selects RX12 yX12_runFrom yX12_runFrom, .code yX12_runFrom cX12_runFrom 4 (some .int), .fieldLink RX12 16 "RoomFormsModel" "owner" "[I", .methodLink RX12 146 yX12_emptyQuick, .instanceMethod yX12_emptyQuick, .selects RX12 yX12_emptyQuick yX12_emptyQuick, .code yX12_emptyQuick cX12_emptyQuick 4 none] ++ wsX120)
def wsX12_find_r1 : List Cond := [Cond.fieldLink RX12 149 "RoomFormsModel" "newSpan" "I", Cond.fieldLink RX12 13 "RoomFormsModel" "form" "I", Cond.fieldLink RX12 76 "RoomFormsModel" "words" "I", Cond.fieldLink RX12 94 "RoomFormsModel" "lastEnd" "I", Cond.fieldLink RX12 91 "RoomFormsModel" "looked" "I", Cond.fieldLink RX12 97 "RoomFormsModel" "top" "I", Cond.methodLink RX12 142 yX12_firstRun, Cond.instanceMethod yX12_firstRun, Cond.selects RX12 yX12_firstRun yX12_firstRun, Cond.initialized RX12, Cond.code yX12_firstRun cX12_firstRun 5 (some .int), Cond.fieldLink RX12 113 "RoomFormsModel" "runSize" "I", Cond.methodLink RX12 116 yX12_runFrom, Cond.instanceMethod yX12_runFrom, Cond.selects RX12 yX12_runFrom yX12_runFrom, Cond.code yX12_runFrom cX12_runFrom 4 (some .int), Cond.fieldLink RX12 16 "RoomFormsModel" "owner" "[I", Cond.methodLink RX12 152 yX12_bestRun, Cond.instanceMethod yX12_bestRun, Cond.selects RX12 yX12_bestRun yX12_bestRun, Cond.code yX12_bestRun cX12_bestRun 5 (some .int), Cond.methodLink RX12 124 yX12_power, Cond.static yX12_power, Cond.code yX12_power cX12_power 2 (some .int)]
def wsX12_find_r2 : List Cond := [Cond.methodLink RX12 155 yX12_halves, Cond.instanceMethod yX12_halves, Cond.selects RX12 yX12_halves yX12_halves, Cond.code yX12_halves cX12_halves 4 (some .int), Cond.fieldLink RX12 32 "RoomFormsModel" "piece" "[I", Cond.methodLink RX12 158 yX12_classes, Cond.instanceMethod yX12_classes, Cond.selects RX12 yX12_classes yX12_classes, Cond.code yX12_classes cX12_classes 4 (some .int), Cond.fieldLink RX12 106 "RoomFormsModel" "pages" "I", Cond.fieldLink RX12 35 "RoomFormsModel" "page" "[I", Cond.methodLink RX12 120 yX12_isFree, Cond.instanceMethod yX12_isFree, Cond.selects RX12 yX12_isFree yX12_isFree, Cond.code yX12_isFree cX12_isFree 4 (some .boolean), Cond.methodLink RX12 161 yX12_rowOfPages, Cond.instanceMethod yX12_rowOfPages, Cond.selects RX12 yX12_rowOfPages yX12_rowOfPages, Cond.code yX12_rowOfPages cX12_rowOfPages 5 (some .int), Cond.methodLink RX12 164 yX12_bits, Cond.instanceMethod yX12_bits, Cond.selects RX12 yX12_bits yX12_bits, Cond.code yX12_bits cX12_bits 4 (some .int), Cond.methodLink RX12 127 Lib.Math.min.name]
def wsX12_find_r3 : List Cond := [Cond.static Lib.Math.min.name, Cond.initialized "java/lang/Math", Cond.code Lib.Math.min.name Lib.Math.min.code 2 (some .int), Cond.methodLink RX12 167 yX12_levels, Cond.instanceMethod yX12_levels, Cond.selects RX12 yX12_levels yX12_levels, Cond.code yX12_levels cX12_levels 5 (some .int), Cond.fieldLink RX12 42 "RoomFormsModel" "listMany" "[I", Cond.fieldLink RX12 39 "RoomFormsModel" "list" "[I", Cond.methodLink RX12 133 yX12_listOf, Cond.static yX12_listOf, Cond.code yX12_listOf cX12_listOf 2 (some .int), Cond.methodLink RX12 136 yX12_sizeAt, Cond.instanceMethod yX12_sizeAt, Cond.selects RX12 yX12_sizeAt yX12_sizeAt, Cond.code yX12_sizeAt cX12_sizeAt 3 (some .int), Cond.methodLink RX12 139 yX12_fromList, Cond.instanceMethod yX12_fromList, Cond.selects RX12 yX12_fromList yX12_fromList, Cond.code yX12_fromList cX12_fromList 5 none, Cond.methodLink RX12 109 yX12_toList, Cond.instanceMethod yX12_toList, Cond.selects RX12 yX12_toList yX12_toList, Cond.code yX12_toList cX12_toList 5 none]
def wsX12_find_r4 : List Cond := [Cond.methodLink RX12 170 yX12_quick, Cond.instanceMethod yX12_quick, Cond.selects RX12 yX12_quick yX12_quick, Cond.code yX12_quick cX12_quick 4 (some .int), Cond.fieldLink RX12 58 "RoomFormsModel" "quickMany" "[I", Cond.fieldLink RX12 55 "RoomFormsModel" "quick" "[I", Cond.methodLink RX12 146 yX12_emptyQuick, Cond.instanceMethod yX12_emptyQuick, Cond.selects RX12 yX12_emptyQuick yX12_emptyQuick, Cond.code yX12_emptyQuick cX12_emptyQuick 4 none]
def wsX12_find : List Cond := .code yX12_find cX12_find 3 (some .int) :: ((wsX12_find_r1 ++ (wsX12_find_r2 ++ (wsX12_find_r3 ++ wsX12_find_r4))) ++ wsX120)
def wsX12_isThere : List Cond := .code yX12_isThere cX12_isThere 2 (some .boolean) :: ([.fieldLink RX12 23 "RoomFormsModel" "place" "[I", .fieldLink RX12 76 "RoomFormsModel" "words" "I", .fieldLink RX12 16 "RoomFormsModel" "owner" "[I"] ++ wsX120)
def wsX12_isUsed : List Cond := .code yX12_isUsed cX12_isUsed 2 (some .boolean) :: ([.fieldLink RX12 20 "RoomFormsModel" "number" "[I", .methodLink RX12 178 yX12_isThere, .instanceMethod yX12_isThere, .selects RX12 yX12_isThere yX12_isThere, .initialized RX12, .code yX12_isThere cX12_isThere 2 (some .boolean), .fieldLink RX12 23 "RoomFormsModel" "place" "[I", .fieldLink RX12 76 "RoomFormsModel" "words" "I", .fieldLink RX12 16 "RoomFormsModel" "owner" "[I"] ++ wsX120)
def wsX12_give_r1 : List Cond := [Cond.fieldLink RX12 13 "RoomFormsModel" "form" "I", Cond.fieldLink RX12 79 "RoomFormsModel" "blocks" "I", Cond.fieldLink RX12 20 "RoomFormsModel" "number" "[I", Cond.fieldLink RX12 82 "RoomFormsModel" "numbers" "I", Cond.fieldLink RX12 23 "RoomFormsModel" "place" "[I", Cond.fieldLink RX12 26 "RoomFormsModel" "span" "[I", Cond.fieldLink RX12 149 "RoomFormsModel" "newSpan" "I", Cond.fieldLink RX12 29 "RoomFormsModel" "asks" "[I", Cond.fieldLink RX12 16 "RoomFormsModel" "owner" "[I", Cond.fieldLink RX12 45 "RoomFormsModel" "stackPlace" "[I", Cond.fieldLink RX12 100 "RoomFormsModel" "stacked" "I", Cond.fieldLink RX12 48 "RoomFormsModel" "stackSpan" "[I", Cond.fieldLink RX12 51 "RoomFormsModel" "isGone" "[Z", Cond.fieldLink RX12 97 "RoomFormsModel" "top" "I", Cond.fieldLink RX12 85 "RoomFormsModel" "asked" "I", Cond.fieldLink RX12 88 "RoomFormsModel" "spans" "I", Cond.fieldLink RX12 94 "RoomFormsModel" "lastEnd" "I", Cond.methodLink RX12 72 yX12_fails, Cond.instanceMethod yX12_fails, Cond.selects RX12 yX12_fails yX12_fails, Cond.initialized RX12, Cond.code yX12_fails cX12_fails 2 (some .boolean), Cond.fieldLink RX12 1 "RoomFormsModel" "thrown" "I", Cond.methodLink RX12 172 yX12_find]
def wsX12_give_r2 : List Cond := [Cond.instanceMethod yX12_find, Cond.selects RX12 yX12_find yX12_find, Cond.code yX12_find cX12_find 3 (some .int), Cond.fieldLink RX12 76 "RoomFormsModel" "words" "I", Cond.fieldLink RX12 91 "RoomFormsModel" "looked" "I", Cond.methodLink RX12 142 yX12_firstRun, Cond.instanceMethod yX12_firstRun, Cond.selects RX12 yX12_firstRun yX12_firstRun, Cond.code yX12_firstRun cX12_firstRun 5 (some .int), Cond.fieldLink RX12 113 "RoomFormsModel" "runSize" "I", Cond.methodLink RX12 116 yX12_runFrom, Cond.instanceMethod yX12_runFrom, Cond.selects RX12 yX12_runFrom yX12_runFrom, Cond.code yX12_runFrom cX12_runFrom 4 (some .int), Cond.methodLink RX12 152 yX12_bestRun, Cond.instanceMethod yX12_bestRun, Cond.selects RX12 yX12_bestRun yX12_bestRun, Cond.code yX12_bestRun cX12_bestRun 5 (some .int), Cond.methodLink RX12 124 yX12_power, Cond.static yX12_power, Cond.code yX12_power cX12_power 2 (some .int), Cond.methodLink RX12 155 yX12_halves, Cond.instanceMethod yX12_halves, Cond.selects RX12 yX12_halves yX12_halves]
def wsX12_give_r3 : List Cond := [Cond.code yX12_halves cX12_halves 4 (some .int), Cond.fieldLink RX12 32 "RoomFormsModel" "piece" "[I", Cond.methodLink RX12 158 yX12_classes, Cond.instanceMethod yX12_classes, Cond.selects RX12 yX12_classes yX12_classes, Cond.code yX12_classes cX12_classes 4 (some .int), Cond.fieldLink RX12 106 "RoomFormsModel" "pages" "I", Cond.fieldLink RX12 35 "RoomFormsModel" "page" "[I", Cond.methodLink RX12 120 yX12_isFree, Cond.instanceMethod yX12_isFree, Cond.selects RX12 yX12_isFree yX12_isFree, Cond.code yX12_isFree cX12_isFree 4 (some .boolean), Cond.methodLink RX12 161 yX12_rowOfPages, Cond.instanceMethod yX12_rowOfPages, Cond.selects RX12 yX12_rowOfPages yX12_rowOfPages, Cond.code yX12_rowOfPages cX12_rowOfPages 5 (some .int), Cond.methodLink RX12 164 yX12_bits, Cond.instanceMethod yX12_bits, Cond.selects RX12 yX12_bits yX12_bits, Cond.code yX12_bits cX12_bits 4 (some .int), Cond.methodLink RX12 127 Lib.Math.min.name, Cond.static Lib.Math.min.name, Cond.initialized "java/lang/Math", Cond.code Lib.Math.min.name Lib.Math.min.code 2 (some .int)]
def wsX12_give_r4 : List Cond := [Cond.methodLink RX12 167 yX12_levels, Cond.instanceMethod yX12_levels, Cond.selects RX12 yX12_levels yX12_levels, Cond.code yX12_levels cX12_levels 5 (some .int), Cond.fieldLink RX12 42 "RoomFormsModel" "listMany" "[I", Cond.fieldLink RX12 39 "RoomFormsModel" "list" "[I", Cond.methodLink RX12 133 yX12_listOf, Cond.static yX12_listOf, Cond.code yX12_listOf cX12_listOf 2 (some .int), Cond.methodLink RX12 136 yX12_sizeAt, Cond.instanceMethod yX12_sizeAt, Cond.selects RX12 yX12_sizeAt yX12_sizeAt, Cond.code yX12_sizeAt cX12_sizeAt 3 (some .int), Cond.methodLink RX12 139 yX12_fromList, Cond.instanceMethod yX12_fromList, Cond.selects RX12 yX12_fromList yX12_fromList, Cond.code yX12_fromList cX12_fromList 5 none, Cond.methodLink RX12 109 yX12_toList, Cond.instanceMethod yX12_toList, Cond.selects RX12 yX12_toList yX12_toList, Cond.code yX12_toList cX12_toList 5 none, Cond.methodLink RX12 170 yX12_quick, Cond.instanceMethod yX12_quick, Cond.selects RX12 yX12_quick yX12_quick]
def wsX12_give_r5 : List Cond := [Cond.code yX12_quick cX12_quick 4 (some .int), Cond.fieldLink RX12 58 "RoomFormsModel" "quickMany" "[I", Cond.fieldLink RX12 55 "RoomFormsModel" "quick" "[I", Cond.methodLink RX12 146 yX12_emptyQuick, Cond.instanceMethod yX12_emptyQuick, Cond.selects RX12 yX12_emptyQuick yX12_emptyQuick, Cond.code yX12_emptyQuick cX12_emptyQuick 4 none, Cond.methodLink RX12 175 yX12_isUsed, Cond.instanceMethod yX12_isUsed, Cond.selects RX12 yX12_isUsed yX12_isUsed, Cond.code yX12_isUsed cX12_isUsed 2 (some .boolean), Cond.methodLink RX12 178 yX12_isThere, Cond.instanceMethod yX12_isThere, Cond.selects RX12 yX12_isThere yX12_isThere, Cond.code yX12_isThere cX12_isThere 2 (some .boolean)]
def wsX12_give : List Cond := .code yX12_give cX12_give 5 (some .int) :: ((wsX12_give_r1 ++ (wsX12_give_r2 ++ (wsX12_give_r3 ++ (wsX12_give_r4 ++ wsX12_give_r5)))) ++ wsX120)
def wsX12_blockOf : List Cond := .code yX12_blockOf cX12_blockOf 3 (some .int) :: ([.fieldLink RX12 13 "RoomFormsModel" "form" "I", .fieldLink RX12 20 "RoomFormsModel" "number" "[I", .methodLink RX12 175 yX12_isUsed, .instanceMethod yX12_isUsed, .selects RX12 yX12_isUsed yX12_isUsed, .initialized RX12, .code yX12_isUsed cX12_isUsed 2 (some .boolean), .methodLink RX12 178 yX12_isThere, .instanceMethod yX12_isThere, .selects RX12 yX12_isThere yX12_isThere, .code yX12_isThere cX12_isThere 2 (some .boolean), .fieldLink RX12 23 "RoomFormsModel" "place" "[I", .fieldLink RX12 76 "RoomFormsModel" "words" "I", .fieldLink RX12 16 "RoomFormsModel" "owner" "[I"] ++ wsX120)
def wsX12_freePages : List Cond := .code yX12_freePages cX12_freePages 4 none :: ([.fieldLink RX12 35 "RoomFormsModel" "page" "[I", .methodLink RX12 120 yX12_isFree, .instanceMethod yX12_isFree, .selects RX12 yX12_isFree yX12_isFree, .initialized RX12, .code yX12_isFree cX12_isFree 4 (some .boolean), .fieldLink RX12 16 "RoomFormsModel" "owner" "[I"] ++ wsX120)
def wsX12_sink : List Cond := .code yX12_sink cX12_sink 3 none :: ([.fieldLink RX12 100 "RoomFormsModel" "stacked" "I", .fieldLink RX12 45 "RoomFormsModel" "stackPlace" "[I", .fieldLink RX12 51 "RoomFormsModel" "isGone" "[Z", .fieldLink RX12 97 "RoomFormsModel" "top" "I"] ++ wsX120)
def wsX12_back_r1 : List Cond := [Cond.fieldLink RX12 13 "RoomFormsModel" "form" "I", Cond.fieldLink RX12 23 "RoomFormsModel" "place" "[I", Cond.fieldLink RX12 26 "RoomFormsModel" "span" "[I", Cond.fieldLink RX12 16 "RoomFormsModel" "owner" "[I", Cond.fieldLink RX12 20 "RoomFormsModel" "number" "[I", Cond.fieldLink RX12 79 "RoomFormsModel" "blocks" "I", Cond.fieldLink RX12 85 "RoomFormsModel" "asked" "I", Cond.fieldLink RX12 29 "RoomFormsModel" "asks" "[I", Cond.fieldLink RX12 88 "RoomFormsModel" "spans" "I", Cond.fieldLink RX12 58 "RoomFormsModel" "quickMany" "[I", Cond.fieldLink RX12 55 "RoomFormsModel" "quick" "[I", Cond.methodLink RX12 181 yX12_blockOf, Cond.instanceMethod yX12_blockOf, Cond.selects RX12 yX12_blockOf yX12_blockOf, Cond.initialized RX12, Cond.code yX12_blockOf cX12_blockOf 3 (some .int), Cond.methodLink RX12 175 yX12_isUsed, Cond.instanceMethod yX12_isUsed, Cond.selects RX12 yX12_isUsed yX12_isUsed, Cond.code yX12_isUsed cX12_isUsed 2 (some .boolean), Cond.methodLink RX12 178 yX12_isThere, Cond.instanceMethod yX12_isThere, Cond.selects RX12 yX12_isThere yX12_isThere, Cond.code yX12_isThere cX12_isThere 2 (some .boolean)]
def wsX12_back_r2 : List Cond := [Cond.fieldLink RX12 76 "RoomFormsModel" "words" "I", Cond.methodLink RX12 72 yX12_fails, Cond.instanceMethod yX12_fails, Cond.selects RX12 yX12_fails yX12_fails, Cond.code yX12_fails cX12_fails 2 (some .boolean), Cond.fieldLink RX12 1 "RoomFormsModel" "thrown" "I", Cond.methodLink RX12 184 yX12_join, Cond.instanceMethod yX12_join, Cond.selects RX12 yX12_join yX12_join, Cond.code yX12_join cX12_join 7 none, Cond.fieldLink RX12 103 "RoomFormsModel" "whole" "I", Cond.fieldLink RX12 32 "RoomFormsModel" "piece" "[I", Cond.methodLink RX12 187 yX12_freePages, Cond.instanceMethod yX12_freePages, Cond.selects RX12 yX12_freePages yX12_freePages, Cond.code yX12_freePages cX12_freePages 4 none, Cond.fieldLink RX12 35 "RoomFormsModel" "page" "[I", Cond.methodLink RX12 120 yX12_isFree, Cond.instanceMethod yX12_isFree, Cond.selects RX12 yX12_isFree yX12_isFree, Cond.code yX12_isFree cX12_isFree 4 (some .boolean), Cond.methodLink RX12 190 yX12_joinRuns, Cond.instanceMethod yX12_joinRuns, Cond.selects RX12 yX12_joinRuns yX12_joinRuns]
def wsX12_back_r3 : List Cond := [Cond.code yX12_joinRuns cX12_joinRuns 5 none, Cond.methodLink RX12 136 yX12_sizeAt, Cond.instanceMethod yX12_sizeAt, Cond.selects RX12 yX12_sizeAt yX12_sizeAt, Cond.code yX12_sizeAt cX12_sizeAt 3 (some .int), Cond.methodLink RX12 139 yX12_fromList, Cond.instanceMethod yX12_fromList, Cond.selects RX12 yX12_fromList yX12_fromList, Cond.code yX12_fromList cX12_fromList 5 none, Cond.fieldLink RX12 39 "RoomFormsModel" "list" "[I", Cond.fieldLink RX12 42 "RoomFormsModel" "listMany" "[I", Cond.methodLink RX12 133 yX12_listOf, Cond.static yX12_listOf, Cond.code yX12_listOf cX12_listOf 2 (some .int), Cond.methodLink RX12 109 yX12_toList, Cond.instanceMethod yX12_toList, Cond.selects RX12 yX12_toList yX12_toList, Cond.code yX12_toList cX12_toList 5 none, Cond.methodLink RX12 193 yX12_sink, Cond.instanceMethod yX12_sink, Cond.selects RX12 yX12_sink yX12_sink, Cond.code yX12_sink cX12_sink 3 none, Cond.fieldLink RX12 100 "RoomFormsModel" "stacked" "I", Cond.fieldLink RX12 45 "RoomFormsModel" "stackPlace" "[I"]
def wsX12_back_r4 : List Cond := [Cond.fieldLink RX12 51 "RoomFormsModel" "isGone" "[Z", Cond.fieldLink RX12 97 "RoomFormsModel" "top" "I"]
def wsX12_back : List Cond := .code yX12_back cX12_back 7 (some .int) :: ((wsX12_back_r1 ++ (wsX12_back_r2 ++ (wsX12_back_r3 ++ wsX12_back_r4))) ++ wsX120)
def wsX12_about_r1 : List Cond := [Cond.fieldLink RX12 13 "RoomFormsModel" "form" "I", Cond.fieldLink RX12 23 "RoomFormsModel" "place" "[I", Cond.fieldLink RX12 26 "RoomFormsModel" "span" "[I", Cond.fieldLink RX12 29 "RoomFormsModel" "asks" "[I", Cond.methodLink RX12 181 yX12_blockOf, Cond.instanceMethod yX12_blockOf, Cond.selects RX12 yX12_blockOf yX12_blockOf, Cond.initialized RX12, Cond.code yX12_blockOf cX12_blockOf 3 (some .int), Cond.fieldLink RX12 20 "RoomFormsModel" "number" "[I", Cond.methodLink RX12 175 yX12_isUsed, Cond.instanceMethod yX12_isUsed, Cond.selects RX12 yX12_isUsed yX12_isUsed, Cond.code yX12_isUsed cX12_isUsed 2 (some .boolean), Cond.methodLink RX12 178 yX12_isThere, Cond.instanceMethod yX12_isThere, Cond.selects RX12 yX12_isThere yX12_isThere, Cond.code yX12_isThere cX12_isThere 2 (some .boolean), Cond.fieldLink RX12 76 "RoomFormsModel" "words" "I", Cond.fieldLink RX12 16 "RoomFormsModel" "owner" "[I", Cond.methodLink RX12 72 yX12_fails, Cond.instanceMethod yX12_fails, Cond.selects RX12 yX12_fails yX12_fails, Cond.code yX12_fails cX12_fails 2 (some .boolean)]
def wsX12_about_r2 : List Cond := [Cond.fieldLink RX12 1 "RoomFormsModel" "thrown" "I"]
def wsX12_about : List Cond := .code yX12_about cX12_about 4 (some .int) :: ((wsX12_about_r1 ++ wsX12_about_r2) ++ wsX120)
def wsX12_at : List Cond := .code yX12_at cX12_at 2 (some .int) :: ([.fieldLink RX12 13 "RoomFormsModel" "form" "I", .fieldLink RX12 76 "RoomFormsModel" "words" "I", .fieldLink RX12 16 "RoomFormsModel" "owner" "[I", .fieldLink RX12 20 "RoomFormsModel" "number" "[I", .methodLink RX12 72 yX12_fails, .instanceMethod yX12_fails, .selects RX12 yX12_fails yX12_fails, .initialized RX12, .code yX12_fails cX12_fails 2 (some .boolean), .fieldLink RX12 1 "RoomFormsModel" "thrown" "I"] ++ wsX120)
def wsX12_run : List Cond := .code yX12_run cX12_run 5 (some .int) :: ([.fieldLink RX12 13 "RoomFormsModel" "form" "I", .fieldLink RX12 113 "RoomFormsModel" "runSize" "I", .methodLink RX12 72 yX12_fails, .instanceMethod yX12_fails, .selects RX12 yX12_fails yX12_fails, .initialized RX12, .code yX12_fails cX12_fails 2 (some .boolean), .fieldLink RX12 1 "RoomFormsModel" "thrown" "I", .methodLink RX12 116 yX12_runFrom, .instanceMethod yX12_runFrom, .selects RX12 yX12_runFrom yX12_runFrom, .code yX12_runFrom cX12_runFrom 4 (some .int), .fieldLink RX12 76 "RoomFormsModel" "words" "I", .fieldLink RX12 16 "RoomFormsModel" "owner" "[I"] ++ wsX120)
def wsX12_list : List Cond := .code yX12_list cX12_list 3 (some .int) :: ([.fieldLink RX12 13 "RoomFormsModel" "form" "I", .fieldLink RX12 42 "RoomFormsModel" "listMany" "[I", .fieldLink RX12 39 "RoomFormsModel" "list" "[I", .methodLink RX12 72 yX12_fails, .instanceMethod yX12_fails, .selects RX12 yX12_fails yX12_fails, .initialized RX12, .code yX12_fails cX12_fails 2 (some .boolean), .fieldLink RX12 1 "RoomFormsModel" "thrown" "I"] ++ wsX120)
def wsX12_take : List Cond := .code yX12_take cX12_take 6 none :: ([.constantLong RX12 197 (16), .fieldLink RX12 199 "RoomFormsModel" "roomEnd" "I", .fieldLink RX12 202 "RoomFormsModel" "roomAsked" "I", .fieldLink RX12 69 "RoomFormsModel" "has" "[I", .constantLong RX12 205 (15)] ++ wsX120)
def wsX12_roomNumber : List Cond := .code yX12_roomNumber cX12_roomNumber 4 (some .long) :: ([.constantLong RX12 205 (15), .fieldLink RX12 69 "RoomFormsModel" "has" "[I", .constantLong RX12 197 (16), .fieldLink RX12 199 "RoomFormsModel" "roomEnd" "I"] ++ wsX120)
def wsX12_freeAt : List Cond := .code yX12_freeAt cX12_freeAt 3 (some .int) :: ([.fieldLink RX12 207 "RoomFormsModel" "roomWords" "I", .fieldLink RX12 69 "RoomFormsModel" "has" "[I"] ++ wsX120)
def wsX12_fitFrom : List Cond := .code yX12_fitFrom cX12_fitFrom 6 (some .int) :: ([.methodLink RX12 213 yX12_freeAt, .instanceMethod yX12_freeAt, .selects RX12 yX12_freeAt yX12_freeAt, .initialized RX12, .code yX12_freeAt cX12_freeAt 3 (some .int), .fieldLink RX12 207 "RoomFormsModel" "roomWords" "I", .fieldLink RX12 69 "RoomFormsModel" "has" "[I"] ++ wsX120)
def wsX12_placeIn : List Cond := .code yX12_placeIn cX12_placeIn 7 (some .int) :: ([.fieldLink RX12 199 "RoomFormsModel" "roomEnd" "I", .fieldLink RX12 207 "RoomFormsModel" "roomWords" "I", .fieldLink RX12 69 "RoomFormsModel" "has" "[I", .methodLink RX12 210 yX12_fitFrom, .instanceMethod yX12_fitFrom, .selects RX12 yX12_fitFrom yX12_fitFrom, .initialized RX12, .code yX12_fitFrom cX12_fitFrom 6 (some .int), .methodLink RX12 213 yX12_freeAt, .instanceMethod yX12_freeAt, .selects RX12 yX12_freeAt yX12_freeAt, .code yX12_freeAt cX12_freeAt 3 (some .int)] ++ wsX120)
def wsX12_come : List Cond := .code yX12_come cX12_come 4 (some .boolean) :: ([.constantLong RX12 220 (65536), .fieldLink RX12 66 "RoomFormsModel" "slots" "[I", .fieldLink RX12 61 "RoomFormsModel" "room" "[J", .constant RX12 222 (65535), .fieldLink RX12 223 "RoomFormsModel" "rooms" "I", .methodLink RX12 216 yX12_roomNumber, .instanceMethod yX12_roomNumber, .selects RX12 yX12_roomNumber yX12_roomNumber, .initialized RX12, .code yX12_roomNumber cX12_roomNumber 4 (some .long), .constantLong RX12 205 (15), .fieldLink RX12 69 "RoomFormsModel" "has" "[I", .constantLong RX12 197 (16), .fieldLink RX12 199 "RoomFormsModel" "roomEnd" "I"] ++ wsX120)
def wsX12_holds_r1 : List Cond := [Cond.constant RX12 65 (65536), Cond.fieldLink RX12 66 "RoomFormsModel" "slots" "[I", Cond.fieldLink RX12 223 "RoomFormsModel" "rooms" "I", Cond.fieldLink RX12 207 "RoomFormsModel" "roomWords" "I", Cond.fieldLink RX12 199 "RoomFormsModel" "roomEnd" "I", Cond.fieldLink RX12 69 "RoomFormsModel" "has" "[I", Cond.fieldLink RX12 61 "RoomFormsModel" "room" "[J", Cond.fieldLink RX12 202 "RoomFormsModel" "roomAsked" "I", Cond.methodLink RX12 226 yX12_come, Cond.instanceMethod yX12_come, Cond.selects RX12 yX12_come yX12_come, Cond.initialized RX12, Cond.code yX12_come cX12_come 4 (some .boolean), Cond.constantLong RX12 220 (65536), Cond.constant RX12 222 (65535), Cond.methodLink RX12 216 yX12_roomNumber, Cond.instanceMethod yX12_roomNumber, Cond.selects RX12 yX12_roomNumber yX12_roomNumber, Cond.code yX12_roomNumber cX12_roomNumber 4 (some .long), Cond.constantLong RX12 205 (15), Cond.constantLong RX12 197 (16), Cond.methodLink RX12 230 yX12_take, Cond.instanceMethod yX12_take, Cond.selects RX12 yX12_take yX12_take]
def wsX12_holds_r2 : List Cond := [Cond.code yX12_take cX12_take 6 none, Cond.methodLink RX12 234 yX12_placeIn, Cond.instanceMethod yX12_placeIn, Cond.selects RX12 yX12_placeIn yX12_placeIn, Cond.code yX12_placeIn cX12_placeIn 7 (some .int), Cond.methodLink RX12 210 yX12_fitFrom, Cond.instanceMethod yX12_fitFrom, Cond.selects RX12 yX12_fitFrom yX12_fitFrom, Cond.code yX12_fitFrom cX12_fitFrom 6 (some .int), Cond.methodLink RX12 213 yX12_freeAt, Cond.instanceMethod yX12_freeAt, Cond.selects RX12 yX12_freeAt yX12_freeAt, Cond.code yX12_freeAt cX12_freeAt 3 (some .int)]
def wsX12_holds : List Cond := .code yX12_holds cX12_holds 10 (some .int) :: ((wsX12_holds_r1 ++ wsX12_holds_r2) ++ wsX120)
def wsX12_worst_r1 : List Cond := [Cond.methodLink RX12 72 yX12_fails, Cond.instanceMethod yX12_fails, Cond.selects RX12 yX12_fails yX12_fails, Cond.initialized RX12, Cond.code yX12_fails cX12_fails 2 (some .boolean), Cond.fieldLink RX12 1 "RoomFormsModel" "thrown" "I", Cond.methodLink RX12 237 yX12_holds, Cond.instanceMethod yX12_holds, Cond.selects RX12 yX12_holds yX12_holds, Cond.code yX12_holds cX12_holds 10 (some .int), Cond.constant RX12 65 (65536), Cond.fieldLink RX12 66 "RoomFormsModel" "slots" "[I", Cond.fieldLink RX12 223 "RoomFormsModel" "rooms" "I", Cond.fieldLink RX12 207 "RoomFormsModel" "roomWords" "I", Cond.fieldLink RX12 199 "RoomFormsModel" "roomEnd" "I", Cond.fieldLink RX12 69 "RoomFormsModel" "has" "[I", Cond.fieldLink RX12 61 "RoomFormsModel" "room" "[J", Cond.fieldLink RX12 202 "RoomFormsModel" "roomAsked" "I", Cond.methodLink RX12 226 yX12_come, Cond.instanceMethod yX12_come, Cond.selects RX12 yX12_come yX12_come, Cond.code yX12_come cX12_come 4 (some .boolean), Cond.constantLong RX12 220 (65536), Cond.constant RX12 222 (65535)]
def wsX12_worst_r2 : List Cond := [Cond.methodLink RX12 216 yX12_roomNumber, Cond.instanceMethod yX12_roomNumber, Cond.selects RX12 yX12_roomNumber yX12_roomNumber, Cond.code yX12_roomNumber cX12_roomNumber 4 (some .long), Cond.constantLong RX12 205 (15), Cond.constantLong RX12 197 (16), Cond.methodLink RX12 230 yX12_take, Cond.instanceMethod yX12_take, Cond.selects RX12 yX12_take yX12_take, Cond.code yX12_take cX12_take 6 none, Cond.methodLink RX12 234 yX12_placeIn, Cond.instanceMethod yX12_placeIn, Cond.selects RX12 yX12_placeIn yX12_placeIn, Cond.code yX12_placeIn cX12_placeIn 7 (some .int), Cond.methodLink RX12 210 yX12_fitFrom, Cond.instanceMethod yX12_fitFrom, Cond.selects RX12 yX12_fitFrom yX12_fitFrom, Cond.code yX12_fitFrom cX12_fitFrom 6 (some .int), Cond.methodLink RX12 213 yX12_freeAt, Cond.instanceMethod yX12_freeAt, Cond.selects RX12 yX12_freeAt yX12_freeAt, Cond.code yX12_freeAt cX12_freeAt 3 (some .int)]
def wsX12_worst : List Cond := .code yX12_worst cX12_worst 6 (some .int) :: ((wsX12_worst_r1 ++ wsX12_worst_r2) ++ wsX120)
def wsX12_count_r1 : List Cond := [Cond.fieldLink RX12 223 "RoomFormsModel" "rooms" "I", Cond.fieldLink RX12 13 "RoomFormsModel" "form" "I", Cond.fieldLink RX12 76 "RoomFormsModel" "words" "I", Cond.fieldLink RX12 79 "RoomFormsModel" "blocks" "I", Cond.fieldLink RX12 82 "RoomFormsModel" "numbers" "I", Cond.fieldLink RX12 85 "RoomFormsModel" "asked" "I", Cond.fieldLink RX12 88 "RoomFormsModel" "spans" "I", Cond.fieldLink RX12 113 "RoomFormsModel" "runSize" "I", Cond.fieldLink RX12 91 "RoomFormsModel" "looked" "I", Cond.fieldLink RX12 58 "RoomFormsModel" "quickMany" "[I", Cond.fieldLink RX12 32 "RoomFormsModel" "piece" "[I", Cond.fieldLink RX12 106 "RoomFormsModel" "pages" "I", Cond.fieldLink RX12 35 "RoomFormsModel" "page" "[I", Cond.fieldLink RX12 97 "RoomFormsModel" "top" "I", Cond.methodLink RX12 72 yX12_fails, Cond.instanceMethod yX12_fails, Cond.selects RX12 yX12_fails yX12_fails, Cond.initialized RX12, Cond.code yX12_fails cX12_fails 2 (some .boolean), Cond.fieldLink RX12 1 "RoomFormsModel" "thrown" "I", Cond.methodLink RX12 116 yX12_runFrom, Cond.instanceMethod yX12_runFrom, Cond.selects RX12 yX12_runFrom yX12_runFrom, Cond.code yX12_runFrom cX12_runFrom 4 (some .int)]
def wsX12_count_r2 : List Cond := [Cond.fieldLink RX12 16 "RoomFormsModel" "owner" "[I"]
def wsX12_count : List Cond := .code yX12_count cX12_count 4 (some .int) :: ((wsX12_count_r1 ++ wsX12_count_r2) ++ wsX120)
theorem dX12_thrown_0 : decode cX12_thrown 0 = .ok (.aload_n 0, 1) := by decide +kernel
theorem dX12_thrown_1 : decode cX12_thrown 1 = .ok (.getfield 1, 3) := by decide +kernel
theorem dX12_thrown_4 : decode cX12_thrown 4 = .ok (.ireturn, 1) := by decide +kernel
theorem dX12_fails_0 : decode cX12_fails 0 = .ok (.aload_n 0, 1) := by decide +kernel
theorem dX12_fails_1 : decode cX12_fails 1 = .ok (.iload_n 1, 1) := by decide +kernel
theorem dX12_fails_2 : decode cX12_fails 2 = .ok (.putfield 1, 3) := by decide +kernel
theorem dX12_fails_5 : decode cX12_fails 5 = .ok (.iload_n 1, 1) := by decide +kernel
theorem dX12_fails_6 : decode cX12_fails 6 = .ok (.ifCond .eq 7, 3) := by decide +kernel
theorem dX12_fails_9 : decode cX12_fails 9 = .ok (.iconst 1, 1) := by decide +kernel
theorem dX12_fails_10 : decode cX12_fails 10 = .ok (.goto 4, 3) := by decide +kernel
theorem dX12_fails_13 : decode cX12_fails 13 = .ok (.iconst 0, 1) := by decide +kernel
theorem dX12_fails_14 : decode cX12_fails 14 = .ok (.ireturn, 1) := by decide +kernel
theorem dX12_init_0 : decode cX12_init 0 = .ok (.aload_n 0, 1) := by decide +kernel
theorem dX12_init_1 : decode cX12_init 1 = .ok (.invokespecial 7, 3) := by decide +kernel
theorem dX12_init_4 : decode cX12_init 4 = .ok (.aload_n 0, 1) := by decide +kernel
theorem dX12_init_5 : decode cX12_init 5 = .ok (.iconst (-1), 1) := by decide +kernel
theorem dX12_init_6 : decode cX12_init 6 = .ok (.putfield 13, 3) := by decide +kernel
theorem dX12_init_9 : decode cX12_init 9 = .ok (.aload_n 0, 1) := by decide +kernel
theorem dX12_init_10 : decode cX12_init 10 = .ok (.sipush 1024, 3) := by decide +kernel
theorem dX12_init_13 : decode cX12_init 13 = .ok (.newarray .int, 2) := by decide +kernel
theorem dX12_init_15 : decode cX12_init 15 = .ok (.putfield 16, 3) := by decide +kernel
theorem dX12_init_18 : decode cX12_init 18 = .ok (.aload_n 0, 1) := by decide +kernel
theorem dX12_init_19 : decode cX12_init 19 = .ok (.sipush 200, 3) := by decide +kernel
theorem dX12_init_22 : decode cX12_init 22 = .ok (.newarray .int, 2) := by decide +kernel
theorem dX12_init_24 : decode cX12_init 24 = .ok (.putfield 20, 3) := by decide +kernel
theorem dX12_init_27 : decode cX12_init 27 = .ok (.aload_n 0, 1) := by decide +kernel
theorem dX12_init_28 : decode cX12_init 28 = .ok (.sipush 200, 3) := by decide +kernel
theorem dX12_init_31 : decode cX12_init 31 = .ok (.newarray .int, 2) := by decide +kernel
theorem dX12_init_33 : decode cX12_init 33 = .ok (.putfield 23, 3) := by decide +kernel
theorem dX12_init_36 : decode cX12_init 36 = .ok (.aload_n 0, 1) := by decide +kernel
theorem dX12_init_37 : decode cX12_init 37 = .ok (.sipush 200, 3) := by decide +kernel
theorem dX12_init_40 : decode cX12_init 40 = .ok (.newarray .int, 2) := by decide +kernel
theorem dX12_init_42 : decode cX12_init 42 = .ok (.putfield 26, 3) := by decide +kernel
theorem dX12_init_45 : decode cX12_init 45 = .ok (.aload_n 0, 1) := by decide +kernel
theorem dX12_init_46 : decode cX12_init 46 = .ok (.sipush 200, 3) := by decide +kernel
theorem dX12_init_49 : decode cX12_init 49 = .ok (.newarray .int, 2) := by decide +kernel
theorem dX12_init_51 : decode cX12_init 51 = .ok (.putfield 29, 3) := by decide +kernel
theorem dX12_init_54 : decode cX12_init 54 = .ok (.aload_n 0, 1) := by decide +kernel
theorem dX12_init_55 : decode cX12_init 55 = .ok (.sipush 1024, 3) := by decide +kernel
theorem dX12_init_58 : decode cX12_init 58 = .ok (.newarray .int, 2) := by decide +kernel
theorem dX12_init_60 : decode cX12_init 60 = .ok (.putfield 32, 3) := by decide +kernel
theorem dX12_init_63 : decode cX12_init 63 = .ok (.aload_n 0, 1) := by decide +kernel
theorem dX12_init_64 : decode cX12_init 64 = .ok (.bipush 32, 2) := by decide +kernel
theorem dX12_init_66 : decode cX12_init 66 = .ok (.newarray .int, 2) := by decide +kernel
theorem dX12_init_68 : decode cX12_init 68 = .ok (.putfield 35, 3) := by decide +kernel
theorem dX12_init_71 : decode cX12_init 71 = .ok (.aload_n 0, 1) := by decide +kernel
theorem dX12_init_72 : decode cX12_init 72 = .ok (.ldc 38, 2) := by decide +kernel
theorem dX12_init_74 : decode cX12_init 74 = .ok (.newarray .int, 2) := by decide +kernel
theorem dX12_init_76 : decode cX12_init 76 = .ok (.putfield 39, 3) := by decide +kernel
theorem dX12_init_79 : decode cX12_init 79 = .ok (.aload_n 0, 1) := by decide +kernel
theorem dX12_init_80 : decode cX12_init 80 = .ok (.bipush 44, 2) := by decide +kernel
theorem dX12_init_82 : decode cX12_init 82 = .ok (.newarray .int, 2) := by decide +kernel
theorem dX12_init_84 : decode cX12_init 84 = .ok (.putfield 42, 3) := by decide +kernel
theorem dX12_init_87 : decode cX12_init 87 = .ok (.aload_n 0, 1) := by decide +kernel
theorem dX12_init_88 : decode cX12_init 88 = .ok (.sipush 1024, 3) := by decide +kernel
theorem dX12_init_91 : decode cX12_init 91 = .ok (.newarray .int, 2) := by decide +kernel
theorem dX12_init_93 : decode cX12_init 93 = .ok (.putfield 45, 3) := by decide +kernel
theorem dX12_init_96 : decode cX12_init 96 = .ok (.aload_n 0, 1) := by decide +kernel
theorem dX12_init_97 : decode cX12_init 97 = .ok (.sipush 1024, 3) := by decide +kernel
theorem dX12_init_100 : decode cX12_init 100 = .ok (.newarray .int, 2) := by decide +kernel
theorem dX12_init_102 : decode cX12_init 102 = .ok (.putfield 48, 3) := by decide +kernel
theorem dX12_init_105 : decode cX12_init 105 = .ok (.aload_n 0, 1) := by decide +kernel
theorem dX12_init_106 : decode cX12_init 106 = .ok (.sipush 1024, 3) := by decide +kernel
theorem dX12_init_109 : decode cX12_init 109 = .ok (.newarray .boolean, 2) := by decide +kernel
theorem dX12_init_111 : decode cX12_init 111 = .ok (.putfield 51, 3) := by decide +kernel
theorem dX12_init_114 : decode cX12_init 114 = .ok (.aload_n 0, 1) := by decide +kernel
theorem dX12_init_115 : decode cX12_init 115 = .ok (.sipush 9216, 3) := by decide +kernel
theorem dX12_init_118 : decode cX12_init 118 = .ok (.newarray .int, 2) := by decide +kernel
theorem dX12_init_120 : decode cX12_init 120 = .ok (.putfield 55, 3) := by decide +kernel
theorem dX12_init_123 : decode cX12_init 123 = .ok (.aload_n 0, 1) := by decide +kernel
theorem dX12_init_124 : decode cX12_init 124 = .ok (.bipush 9, 2) := by decide +kernel
theorem dX12_init_126 : decode cX12_init 126 = .ok (.newarray .int, 2) := by decide +kernel
theorem dX12_init_128 : decode cX12_init 128 = .ok (.putfield 58, 3) := by decide +kernel
theorem dX12_init_131 : decode cX12_init 131 = .ok (.aload_n 0, 1) := by decide +kernel
theorem dX12_init_132 : decode cX12_init 132 = .ok (.sipush 20000, 3) := by decide +kernel
theorem dX12_init_135 : decode cX12_init 135 = .ok (.newarray .long, 2) := by decide +kernel
theorem dX12_init_137 : decode cX12_init 137 = .ok (.putfield 61, 3) := by decide +kernel
theorem dX12_init_140 : decode cX12_init 140 = .ok (.aload_n 0, 1) := by decide +kernel
theorem dX12_init_141 : decode cX12_init 141 = .ok (.ldc 65, 2) := by decide +kernel
theorem dX12_init_143 : decode cX12_init 143 = .ok (.newarray .int, 2) := by decide +kernel
theorem dX12_init_145 : decode cX12_init 145 = .ok (.putfield 66, 3) := by decide +kernel
theorem dX12_init_148 : decode cX12_init 148 = .ok (.aload_n 0, 1) := by decide +kernel
theorem dX12_init_149 : decode cX12_init 149 = .ok (.bipush 14, 2) := by decide +kernel
theorem dX12_init_151 : decode cX12_init 151 = .ok (.newarray .int, 2) := by decide +kernel
theorem dX12_init_153 : decode cX12_init 153 = .ok (.putfield 69, 3) := by decide +kernel
theorem dX12_init_156 : decode cX12_init 156 = .ok (.return_, 1) := by decide +kernel
set_option maxRecDepth 20000 in
theorem ggX12_open_X12_fails : GoodIn wsX12_open wsX12_fails := by first | exact goodIn_sub (show zy_S _ wsX12_open from (zy_c (zy_t (zy_l (zy_l (zy_t (zy_t (zy_t (zy_t (zy_t (zy_t (zy_t (zy_t (zy_t (zy_t (zy_t (zy_t (zy_t (zy_t (zy_t (zy_t (zy_t (zy_t (zy_t (zy_t (zy_t zy_h)))))))))))))))))))))))) (zy_a (zy_c (zy_t (zy_l (zy_l (zy_t (zy_t (zy_t (zy_t (zy_t (zy_t (zy_t (zy_t (zy_t (zy_t (zy_t (zy_t (zy_t (zy_t (zy_t (zy_t (zy_t (zy_t (zy_t (zy_t (zy_t (zy_t zy_h))))))))))))))))))))))))) zy_n) (zy_p (fun _ h => (zy_t (zy_r h))))))) (by decide +kernel) | exact goodIn_r _ [22, 23, 32, 33, 34, 35, 36, 37, 38, 39, 40, 41, 42, 43, 44, 45, 46, 47, 48, 49, 50, 51, 52, 53, 54, 55, 56, 57, 58, 59, 60, 61, 62, 63, 64, 65, 66, 67] (by decide +kernel) (by decide +kernel)
set_option maxRecDepth 20000 in
theorem gX12_open_X12_fails : GoodIn wsX12_open (wsV RX12 72 RX12 yX12_fails wsX12_fails) := by first | exact goodIn_app (goodIn_sub (show zy_S _ wsX12_open from (zy_c (zy_t (zy_l (zy_l (zy_t (zy_t (zy_t (zy_t (zy_t (zy_t (zy_t (zy_t (zy_t (zy_t (zy_t (zy_t (zy_t (zy_t (zy_t (zy_t (zy_t zy_h)))))))))))))))))))) (zy_c (zy_t (zy_l (zy_l (zy_t (zy_t (zy_t (zy_t (zy_t (zy_t (zy_t (zy_t (zy_t (zy_t (zy_t (zy_t (zy_t (zy_t (zy_t (zy_t (zy_t (zy_t zy_h))))))))))))))))))))) (zy_c (zy_t (zy_l (zy_l (zy_t (zy_t (zy_t (zy_t (zy_t (zy_t (zy_t (zy_t (zy_t (zy_t (zy_t (zy_t (zy_t (zy_t (zy_t (zy_t (zy_t (zy_t (zy_t zy_h)))))))))))))))))))))) (zy_c (zy_t (zy_l (zy_l (zy_t (zy_t (zy_t (zy_t (zy_t (zy_t (zy_t (zy_t (zy_t (zy_t (zy_t (zy_t (zy_t (zy_t (zy_t (zy_t (zy_t (zy_t (zy_t (zy_t zy_h))))))))))))))))))))))) zy_n))))) (by decide +kernel)) ggX12_open_X12_fails | exact goodIn_app (goodIn_of _ (by decide +kernel)) ggX12_open_X12_fails
set_option maxRecDepth 20000 in
theorem ggX12_open_X12_toList : GoodIn wsX12_open wsX12_toList := by first | exact goodIn_sub (show zy_S _ wsX12_open from (zy_c (zy_t (zy_l (zy_r (zy_t (zy_t zy_h))))) (zy_a (zy_c (zy_t (zy_l (zy_l (zy_t (zy_t (zy_t (zy_t (zy_t (zy_t (zy_t (zy_t (zy_t (zy_t (zy_t (zy_t (zy_t (zy_t (zy_t zy_h)))))))))))))))))) (zy_c (zy_t (zy_l (zy_r (zy_t (zy_t (zy_t zy_h)))))) (zy_c (zy_t (zy_l (zy_r (zy_t (zy_t (zy_t (zy_t zy_h))))))) (zy_c (zy_t (zy_l (zy_r (zy_t (zy_t (zy_t (zy_t (zy_t zy_h)))))))) (zy_c (zy_t (zy_l (zy_l (zy_t (zy_t (zy_t (zy_t (zy_t (zy_t (zy_t (zy_t (zy_t (zy_t (zy_t (zy_t (zy_t (zy_t (zy_t (zy_t (zy_t (zy_t (zy_t (zy_t zy_h))))))))))))))))))))))) (zy_c (zy_t (zy_l (zy_r (zy_t (zy_t (zy_t (zy_t (zy_t (zy_t zy_h))))))))) zy_n)))))) (zy_p (fun _ h => (zy_t (zy_r h))))))) (by decide +kernel) | exact goodIn_r _ [27, 16, 28, 29, 30, 21, 31, 32, 33, 34, 35, 36, 37, 38, 39, 40, 41, 42, 43, 44, 45, 46, 47, 48, 49, 50, 51, 52, 53, 54, 55, 56, 57, 58, 59, 60, 61, 62, 63, 64, 65, 66, 67] (by decide +kernel) (by decide +kernel)
set_option maxRecDepth 20000 in
theorem gX12_open_X12_toList : GoodIn wsX12_open (wsV RX12 109 RX12 yX12_toList wsX12_toList) := by first | exact goodIn_app (goodIn_sub (show zy_S _ wsX12_open from (zy_c (zy_t (zy_l (zy_l (zy_t (zy_t (zy_t (zy_t (zy_t (zy_t (zy_t (zy_t (zy_t (zy_t (zy_t (zy_t (zy_t (zy_t (zy_t (zy_t (zy_t (zy_t (zy_t (zy_t (zy_t (zy_t (zy_t zy_h)))))))))))))))))))))))))) (zy_c (zy_t (zy_l (zy_r zy_h))) (zy_c (zy_t (zy_l (zy_r (zy_t zy_h)))) (zy_c (zy_t (zy_l (zy_l (zy_t (zy_t (zy_t (zy_t (zy_t (zy_t (zy_t (zy_t (zy_t (zy_t (zy_t (zy_t (zy_t (zy_t (zy_t (zy_t (zy_t (zy_t (zy_t (zy_t zy_h))))))))))))))))))))))) zy_n))))) (by decide +kernel)) ggX12_open_X12_toList | exact goodIn_app (goodIn_of _ (by decide +kernel)) ggX12_open_X12_toList
theorem dX12_open_0 : decode cX12_open 0 = .ok (.aload_n 0, 1) := by decide +kernel
theorem dX12_open_1 : decode cX12_open 1 = .ok (.iload_n 1, 1) := by decide +kernel
theorem dX12_open_2 : decode cX12_open 2 = .ok (.ifCond .lt 22, 3) := by decide +kernel
theorem dX12_open_5 : decode cX12_open 5 = .ok (.iload_n 1, 1) := by decide +kernel
theorem dX12_open_6 : decode cX12_open 6 = .ok (.bipush 9, 2) := by decide +kernel
theorem dX12_open_8 : decode cX12_open 8 = .ok (.if_icmp .gt 16, 3) := by decide +kernel
theorem dX12_open_11 : decode cX12_open 11 = .ok (.iload_n 2, 1) := by decide +kernel
theorem dX12_open_12 : decode cX12_open 12 = .ok (.bipush 16, 2) := by decide +kernel
theorem dX12_open_14 : decode cX12_open 14 = .ok (.if_icmp .lt 10, 3) := by decide +kernel
theorem dX12_open_17 : decode cX12_open 17 = .ok (.iload_n 2, 1) := by decide +kernel
theorem dX12_open_18 : decode cX12_open 18 = .ok (.sipush 1024, 3) := by decide +kernel
theorem dX12_open_21 : decode cX12_open 21 = .ok (.if_icmp .le 7, 3) := by decide +kernel
theorem dX12_open_24 : decode cX12_open 24 = .ok (.iconst 1, 1) := by decide +kernel
theorem dX12_open_25 : decode cX12_open 25 = .ok (.goto 4, 3) := by decide +kernel
theorem dX12_open_28 : decode cX12_open 28 = .ok (.iconst 0, 1) := by decide +kernel
theorem dX12_open_29 : decode cX12_open 29 = .ok (.invokevirtual 72, 3) := by decide +kernel
theorem dX12_open_32 : decode cX12_open 32 = .ok (.ifCond .eq 4, 3) := by decide +kernel
theorem dX12_open_35 : decode cX12_open 35 = .ok (.return_, 1) := by decide +kernel
theorem dX12_open_36 : decode cX12_open 36 = .ok (.aload_n 0, 1) := by decide +kernel
theorem dX12_open_37 : decode cX12_open 37 = .ok (.iload_n 1, 1) := by decide +kernel
theorem dX12_open_38 : decode cX12_open 38 = .ok (.putfield 13, 3) := by decide +kernel
theorem dX12_open_41 : decode cX12_open 41 = .ok (.aload_n 0, 1) := by decide +kernel
theorem dX12_open_42 : decode cX12_open 42 = .ok (.iload_n 2, 1) := by decide +kernel
theorem dX12_open_43 : decode cX12_open 43 = .ok (.putfield 76, 3) := by decide +kernel
theorem dX12_open_46 : decode cX12_open 46 = .ok (.aload_n 0, 1) := by decide +kernel
theorem dX12_open_47 : decode cX12_open 47 = .ok (.iconst 0, 1) := by decide +kernel
theorem dX12_open_48 : decode cX12_open 48 = .ok (.putfield 79, 3) := by decide +kernel
theorem dX12_open_51 : decode cX12_open 51 = .ok (.aload_n 0, 1) := by decide +kernel
theorem dX12_open_52 : decode cX12_open 52 = .ok (.iconst 0, 1) := by decide +kernel
theorem dX12_open_53 : decode cX12_open 53 = .ok (.putfield 82, 3) := by decide +kernel
theorem dX12_open_56 : decode cX12_open 56 = .ok (.aload_n 0, 1) := by decide +kernel
theorem dX12_open_57 : decode cX12_open 57 = .ok (.iconst 0, 1) := by decide +kernel
theorem dX12_open_58 : decode cX12_open 58 = .ok (.putfield 85, 3) := by decide +kernel
theorem dX12_open_61 : decode cX12_open 61 = .ok (.aload_n 0, 1) := by decide +kernel
theorem dX12_open_62 : decode cX12_open 62 = .ok (.iconst 0, 1) := by decide +kernel
theorem dX12_open_63 : decode cX12_open 63 = .ok (.putfield 88, 3) := by decide +kernel
theorem dX12_open_66 : decode cX12_open 66 = .ok (.aload_n 0, 1) := by decide +kernel
theorem dX12_open_67 : decode cX12_open 67 = .ok (.iconst 0, 1) := by decide +kernel
theorem dX12_open_68 : decode cX12_open 68 = .ok (.putfield 91, 3) := by decide +kernel
theorem dX12_open_71 : decode cX12_open 71 = .ok (.aload_n 0, 1) := by decide +kernel
theorem dX12_open_72 : decode cX12_open 72 = .ok (.iconst 0, 1) := by decide +kernel
theorem dX12_open_73 : decode cX12_open 73 = .ok (.putfield 94, 3) := by decide +kernel
theorem dX12_open_76 : decode cX12_open 76 = .ok (.aload_n 0, 1) := by decide +kernel
theorem dX12_open_77 : decode cX12_open 77 = .ok (.iconst 0, 1) := by decide +kernel
theorem dX12_open_78 : decode cX12_open 78 = .ok (.putfield 97, 3) := by decide +kernel
theorem dX12_open_81 : decode cX12_open 81 = .ok (.aload_n 0, 1) := by decide +kernel
theorem dX12_open_82 : decode cX12_open 82 = .ok (.iconst 0, 1) := by decide +kernel
theorem dX12_open_83 : decode cX12_open 83 = .ok (.putfield 100, 3) := by decide +kernel
theorem dX12_open_86 : decode cX12_open 86 = .ok (.iconst 0, 1) := by decide +kernel
theorem dX12_open_87 : decode cX12_open 87 = .ok (.istore_n 3, 1) := by decide +kernel
theorem dX12_open_88 : decode cX12_open 88 = .ok (.iload_n 3, 1) := by decide +kernel
theorem dX12_open_89 : decode cX12_open 89 = .ok (.sipush 1024, 3) := by decide +kernel
theorem dX12_open_92 : decode cX12_open 92 = .ok (.if_icmp .ge 23, 3) := by decide +kernel
theorem dX12_open_95 : decode cX12_open 95 = .ok (.aload_n 0, 1) := by decide +kernel
theorem dX12_open_96 : decode cX12_open 96 = .ok (.getfield 16, 3) := by decide +kernel
theorem dX12_open_99 : decode cX12_open 99 = .ok (.iload_n 3, 1) := by decide +kernel
theorem dX12_open_100 : decode cX12_open 100 = .ok (.iconst (-1), 1) := by decide +kernel
theorem dX12_open_101 : decode cX12_open 101 = .ok (.iastore, 1) := by decide +kernel
theorem dX12_open_102 : decode cX12_open 102 = .ok (.aload_n 0, 1) := by decide +kernel
theorem dX12_open_103 : decode cX12_open 103 = .ok (.getfield 32, 3) := by decide +kernel
theorem dX12_open_106 : decode cX12_open 106 = .ok (.iload_n 3, 1) := by decide +kernel
theorem dX12_open_107 : decode cX12_open 107 = .ok (.iconst 0, 1) := by decide +kernel
theorem dX12_open_108 : decode cX12_open 108 = .ok (.iastore, 1) := by decide +kernel
theorem dX12_open_109 : decode cX12_open 109 = .ok (.iinc 3 1, 3) := by decide +kernel
theorem dX12_open_112 : decode cX12_open 112 = .ok (.goto (-24), 3) := by decide +kernel
theorem dX12_open_115 : decode cX12_open 115 = .ok (.aload_n 0, 1) := by decide +kernel
theorem dX12_open_116 : decode cX12_open 116 = .ok (.iconst 1, 1) := by decide +kernel
theorem dX12_open_117 : decode cX12_open 117 = .ok (.putfield 103, 3) := by decide +kernel
theorem dX12_open_120 : decode cX12_open 120 = .ok (.iconst 2, 1) := by decide +kernel
theorem dX12_open_121 : decode cX12_open 121 = .ok (.aload_n 0, 1) := by decide +kernel
theorem dX12_open_122 : decode cX12_open 122 = .ok (.getfield 103, 3) := by decide +kernel
theorem dX12_open_125 : decode cX12_open 125 = .ok (.imul, 1) := by decide +kernel
theorem dX12_open_126 : decode cX12_open 126 = .ok (.iload_n 2, 1) := by decide +kernel
theorem dX12_open_127 : decode cX12_open 127 = .ok (.if_icmp .gt 16, 3) := by decide +kernel
theorem dX12_open_130 : decode cX12_open 130 = .ok (.aload_n 0, 1) := by decide +kernel
theorem dX12_open_131 : decode cX12_open 131 = .ok (.dup, 1) := by decide +kernel
theorem dX12_open_132 : decode cX12_open 132 = .ok (.getfield 103, 3) := by decide +kernel
theorem dX12_open_135 : decode cX12_open 135 = .ok (.iconst 2, 1) := by decide +kernel
theorem dX12_open_136 : decode cX12_open 136 = .ok (.imul, 1) := by decide +kernel
theorem dX12_open_137 : decode cX12_open 137 = .ok (.putfield 103, 3) := by decide +kernel
theorem dX12_open_140 : decode cX12_open 140 = .ok (.goto (-20), 3) := by decide +kernel
theorem dX12_open_143 : decode cX12_open 143 = .ok (.aload_n 0, 1) := by decide +kernel
theorem dX12_open_144 : decode cX12_open 144 = .ok (.getfield 32, 3) := by decide +kernel
theorem dX12_open_147 : decode cX12_open 147 = .ok (.iconst 0, 1) := by decide +kernel
theorem dX12_open_148 : decode cX12_open 148 = .ok (.aload_n 0, 1) := by decide +kernel
theorem dX12_open_149 : decode cX12_open 149 = .ok (.getfield 103, 3) := by decide +kernel
theorem dX12_open_152 : decode cX12_open 152 = .ok (.iastore, 1) := by decide +kernel
theorem dX12_open_153 : decode cX12_open 153 = .ok (.aload_n 0, 1) := by decide +kernel
theorem dX12_open_154 : decode cX12_open 154 = .ok (.iload_n 2, 1) := by decide +kernel
theorem dX12_open_155 : decode cX12_open 155 = .ok (.bipush 32, 2) := by decide +kernel
theorem dX12_open_157 : decode cX12_open 157 = .ok (.idiv, 1) := by decide +kernel
theorem dX12_open_158 : decode cX12_open 158 = .ok (.putfield 106, 3) := by decide +kernel
theorem dX12_open_161 : decode cX12_open 161 = .ok (.iconst 0, 1) := by decide +kernel
theorem dX12_open_162 : decode cX12_open 162 = .ok (.istore_n 3, 1) := by decide +kernel
theorem dX12_open_163 : decode cX12_open 163 = .ok (.iload_n 3, 1) := by decide +kernel
theorem dX12_open_164 : decode cX12_open 164 = .ok (.aload_n 0, 1) := by decide +kernel
theorem dX12_open_165 : decode cX12_open 165 = .ok (.getfield 35, 3) := by decide +kernel
theorem dX12_open_168 : decode cX12_open 168 = .ok (.arraylength, 1) := by decide +kernel
theorem dX12_open_169 : decode cX12_open 169 = .ok (.if_icmp .ge 16, 3) := by decide +kernel
theorem dX12_open_172 : decode cX12_open 172 = .ok (.aload_n 0, 1) := by decide +kernel
theorem dX12_open_173 : decode cX12_open 173 = .ok (.getfield 35, 3) := by decide +kernel
theorem dX12_open_176 : decode cX12_open 176 = .ok (.iload_n 3, 1) := by decide +kernel
theorem dX12_open_177 : decode cX12_open 177 = .ok (.iconst 0, 1) := by decide +kernel
theorem dX12_open_178 : decode cX12_open 178 = .ok (.iastore, 1) := by decide +kernel
theorem dX12_open_179 : decode cX12_open 179 = .ok (.iinc 3 1, 3) := by decide +kernel
theorem dX12_open_182 : decode cX12_open 182 = .ok (.goto (-19), 3) := by decide +kernel
theorem dX12_open_185 : decode cX12_open 185 = .ok (.iconst 0, 1) := by decide +kernel
theorem dX12_open_186 : decode cX12_open 186 = .ok (.istore_n 3, 1) := by decide +kernel
theorem dX12_open_187 : decode cX12_open 187 = .ok (.iload_n 3, 1) := by decide +kernel
theorem dX12_open_188 : decode cX12_open 188 = .ok (.bipush 44, 2) := by decide +kernel
theorem dX12_open_190 : decode cX12_open 190 = .ok (.if_icmp .ge 16, 3) := by decide +kernel
theorem dX12_open_193 : decode cX12_open 193 = .ok (.aload_n 0, 1) := by decide +kernel
theorem dX12_open_194 : decode cX12_open 194 = .ok (.getfield 42, 3) := by decide +kernel
theorem dX12_open_197 : decode cX12_open 197 = .ok (.iload_n 3, 1) := by decide +kernel
theorem dX12_open_198 : decode cX12_open 198 = .ok (.iconst 0, 1) := by decide +kernel
theorem dX12_open_199 : decode cX12_open 199 = .ok (.iastore, 1) := by decide +kernel
theorem dX12_open_200 : decode cX12_open 200 = .ok (.iinc 3 1, 3) := by decide +kernel
theorem dX12_open_203 : decode cX12_open 203 = .ok (.goto (-16), 3) := by decide +kernel
theorem dX12_open_206 : decode cX12_open 206 = .ok (.iconst 0, 1) := by decide +kernel
theorem dX12_open_207 : decode cX12_open 207 = .ok (.istore_n 3, 1) := by decide +kernel
theorem dX12_open_208 : decode cX12_open 208 = .ok (.iload_n 3, 1) := by decide +kernel
theorem dX12_open_209 : decode cX12_open 209 = .ok (.aload_n 0, 1) := by decide +kernel
theorem dX12_open_210 : decode cX12_open 210 = .ok (.getfield 58, 3) := by decide +kernel
theorem dX12_open_213 : decode cX12_open 213 = .ok (.arraylength, 1) := by decide +kernel
theorem dX12_open_214 : decode cX12_open 214 = .ok (.if_icmp .ge 16, 3) := by decide +kernel
theorem dX12_open_217 : decode cX12_open 217 = .ok (.aload_n 0, 1) := by decide +kernel
theorem dX12_open_218 : decode cX12_open 218 = .ok (.getfield 58, 3) := by decide +kernel
theorem dX12_open_221 : decode cX12_open 221 = .ok (.iload_n 3, 1) := by decide +kernel
theorem dX12_open_222 : decode cX12_open 222 = .ok (.iconst 0, 1) := by decide +kernel
theorem dX12_open_223 : decode cX12_open 223 = .ok (.iastore, 1) := by decide +kernel
theorem dX12_open_224 : decode cX12_open 224 = .ok (.iinc 3 1, 3) := by decide +kernel
theorem dX12_open_227 : decode cX12_open 227 = .ok (.goto (-19), 3) := by decide +kernel
theorem dX12_open_230 : decode cX12_open 230 = .ok (.aload_n 0, 1) := by decide +kernel
theorem dX12_open_231 : decode cX12_open 231 = .ok (.getfield 13, 3) := by decide +kernel
theorem dX12_open_234 : decode cX12_open 234 = .ok (.bipush 7, 2) := by decide +kernel
theorem dX12_open_236 : decode cX12_open 236 = .ok (.if_icmp .ne 9, 3) := by decide +kernel
theorem dX12_open_239 : decode cX12_open 239 = .ok (.aload_n 0, 1) := by decide +kernel
theorem dX12_open_240 : decode cX12_open 240 = .ok (.iconst 0, 1) := by decide +kernel
theorem dX12_open_241 : decode cX12_open 241 = .ok (.iload_n 2, 1) := by decide +kernel
theorem dX12_open_242 : decode cX12_open 242 = .ok (.invokevirtual 109, 3) := by decide +kernel
theorem dX12_open_245 : decode cX12_open 245 = .ok (.return_, 1) := by decide +kernel
theorem dX12_runFrom_0 : decode cX12_runFrom 0 = .ok (.iload_n 1, 1) := by decide +kernel
theorem dX12_runFrom_1 : decode cX12_runFrom 1 = .ok (.istore_n 2, 1) := by decide +kernel
theorem dX12_runFrom_2 : decode cX12_runFrom 2 = .ok (.iload_n 2, 1) := by decide +kernel
theorem dX12_runFrom_3 : decode cX12_runFrom 3 = .ok (.aload_n 0, 1) := by decide +kernel
theorem dX12_runFrom_4 : decode cX12_runFrom 4 = .ok (.getfield 76, 3) := by decide +kernel
theorem dX12_runFrom_7 : decode cX12_runFrom 7 = .ok (.if_icmp .ge 19, 3) := by decide +kernel
theorem dX12_runFrom_10 : decode cX12_runFrom 10 = .ok (.aload_n 0, 1) := by decide +kernel
theorem dX12_runFrom_11 : decode cX12_runFrom 11 = .ok (.getfield 16, 3) := by decide +kernel
theorem dX12_runFrom_14 : decode cX12_runFrom 14 = .ok (.iload_n 2, 1) := by decide +kernel
theorem dX12_runFrom_15 : decode cX12_runFrom 15 = .ok (.iaload, 1) := by decide +kernel
theorem dX12_runFrom_16 : decode cX12_runFrom 16 = .ok (.iconst (-1), 1) := by decide +kernel
theorem dX12_runFrom_17 : decode cX12_runFrom 17 = .ok (.if_icmp .eq 9, 3) := by decide +kernel
theorem dX12_runFrom_20 : decode cX12_runFrom 20 = .ok (.iinc 2 1, 3) := by decide +kernel
theorem dX12_runFrom_23 : decode cX12_runFrom 23 = .ok (.goto (-21), 3) := by decide +kernel
theorem dX12_runFrom_26 : decode cX12_runFrom 26 = .ok (.iload_n 2, 1) := by decide +kernel
theorem dX12_runFrom_27 : decode cX12_runFrom 27 = .ok (.aload_n 0, 1) := by decide +kernel
theorem dX12_runFrom_28 : decode cX12_runFrom 28 = .ok (.getfield 76, 3) := by decide +kernel
theorem dX12_runFrom_31 : decode cX12_runFrom 31 = .ok (.if_icmp .lt 5, 3) := by decide +kernel
theorem dX12_runFrom_34 : decode cX12_runFrom 34 = .ok (.iconst (-1), 1) := by decide +kernel
theorem dX12_runFrom_35 : decode cX12_runFrom 35 = .ok (.ireturn, 1) := by decide +kernel
theorem dX12_runFrom_36 : decode cX12_runFrom 36 = .ok (.iload_n 2, 1) := by decide +kernel
theorem dX12_runFrom_37 : decode cX12_runFrom 37 = .ok (.istore_n 3, 1) := by decide +kernel
theorem dX12_runFrom_38 : decode cX12_runFrom 38 = .ok (.iload_n 3, 1) := by decide +kernel
theorem dX12_runFrom_39 : decode cX12_runFrom 39 = .ok (.aload_n 0, 1) := by decide +kernel
theorem dX12_runFrom_40 : decode cX12_runFrom 40 = .ok (.getfield 76, 3) := by decide +kernel
theorem dX12_runFrom_43 : decode cX12_runFrom 43 = .ok (.if_icmp .ge 19, 3) := by decide +kernel
theorem dX12_runFrom_46 : decode cX12_runFrom 46 = .ok (.aload_n 0, 1) := by decide +kernel
theorem dX12_runFrom_47 : decode cX12_runFrom 47 = .ok (.getfield 16, 3) := by decide +kernel
theorem dX12_runFrom_50 : decode cX12_runFrom 50 = .ok (.iload_n 3, 1) := by decide +kernel
theorem dX12_runFrom_51 : decode cX12_runFrom 51 = .ok (.iaload, 1) := by decide +kernel
theorem dX12_runFrom_52 : decode cX12_runFrom 52 = .ok (.iconst (-1), 1) := by decide +kernel
theorem dX12_runFrom_53 : decode cX12_runFrom 53 = .ok (.if_icmp .ne 9, 3) := by decide +kernel
theorem dX12_runFrom_56 : decode cX12_runFrom 56 = .ok (.iinc 3 1, 3) := by decide +kernel
theorem dX12_runFrom_59 : decode cX12_runFrom 59 = .ok (.goto (-21), 3) := by decide +kernel
theorem dX12_runFrom_62 : decode cX12_runFrom 62 = .ok (.aload_n 0, 1) := by decide +kernel
theorem dX12_runFrom_63 : decode cX12_runFrom 63 = .ok (.iload_n 3, 1) := by decide +kernel
theorem dX12_runFrom_64 : decode cX12_runFrom 64 = .ok (.iload_n 2, 1) := by decide +kernel
theorem dX12_runFrom_65 : decode cX12_runFrom 65 = .ok (.isub, 1) := by decide +kernel
theorem dX12_runFrom_66 : decode cX12_runFrom 66 = .ok (.putfield 113, 3) := by decide +kernel
theorem dX12_runFrom_69 : decode cX12_runFrom 69 = .ok (.iload_n 2, 1) := by decide +kernel
theorem dX12_runFrom_70 : decode cX12_runFrom 70 = .ok (.ireturn, 1) := by decide +kernel
set_option maxRecDepth 20000 in
theorem ggX12_firstRun_X12_runFrom : GoodIn wsX12_firstRun wsX12_runFrom := by first | exact goodIn_sub (show zy_S _ wsX12_firstRun from (zy_c (zy_t (zy_l (zy_t (zy_t (zy_t (zy_t (zy_t (zy_t zy_h)))))))) (zy_a (zy_c (zy_t (zy_l (zy_t (zy_t (zy_t (zy_t (zy_t (zy_t (zy_t zy_h))))))))) (zy_c (zy_t (zy_l (zy_t (zy_t (zy_t (zy_t (zy_t (zy_t (zy_t (zy_t zy_h)))))))))) (zy_c (zy_t (zy_l (zy_t zy_h))) zy_n))) (zy_p (fun _ h => (zy_t (zy_r h))))))) (by decide +kernel) | exact goodIn_r _ [7, 8, 9, 2, 10, 11, 12, 13, 14, 15, 16, 17, 18, 19, 20, 21, 22, 23, 24, 25, 26, 27, 28, 29, 30, 31, 32, 33, 34, 35, 36, 37, 38, 39, 40, 41, 42, 43, 44, 45] (by decide +kernel) (by decide +kernel)
set_option maxRecDepth 20000 in
theorem gX12_firstRun_X12_runFrom : GoodIn wsX12_firstRun (wsV RX12 116 RX12 yX12_runFrom wsX12_runFrom) := by first | exact goodIn_app (goodIn_sub (show zy_S _ wsX12_firstRun from (zy_c (zy_t (zy_l (zy_t (zy_t zy_h)))) (zy_c (zy_t (zy_l (zy_t (zy_t (zy_t zy_h))))) (zy_c (zy_t (zy_l (zy_t (zy_t (zy_t (zy_t zy_h)))))) (zy_c (zy_t (zy_l (zy_t (zy_t (zy_t (zy_t (zy_t zy_h))))))) zy_n))))) (by decide +kernel)) ggX12_firstRun_X12_runFrom | exact goodIn_app (goodIn_of _ (by decide +kernel)) ggX12_firstRun_X12_runFrom
theorem dX12_firstRun_0 : decode cX12_firstRun 0 = .ok (.aload_n 0, 1) := by decide +kernel
theorem dX12_firstRun_1 : decode cX12_firstRun 1 = .ok (.iload_n 2, 1) := by decide +kernel
theorem dX12_firstRun_2 : decode cX12_firstRun 2 = .ok (.invokevirtual 116, 3) := by decide +kernel
theorem dX12_firstRun_5 : decode cX12_firstRun 5 = .ok (.istore 4, 2) := by decide +kernel
theorem dX12_firstRun_7 : decode cX12_firstRun 7 = .ok (.iload 4, 2) := by decide +kernel
theorem dX12_firstRun_9 : decode cX12_firstRun 9 = .ok (.ifCond .lt 46, 3) := by decide +kernel
theorem dX12_firstRun_12 : decode cX12_firstRun 12 = .ok (.iload 4, 2) := by decide +kernel
theorem dX12_firstRun_14 : decode cX12_firstRun 14 = .ok (.iload_n 3, 1) := by decide +kernel
theorem dX12_firstRun_15 : decode cX12_firstRun 15 = .ok (.if_icmp .ge 40, 3) := by decide +kernel
theorem dX12_firstRun_18 : decode cX12_firstRun 18 = .ok (.aload_n 0, 1) := by decide +kernel
theorem dX12_firstRun_19 : decode cX12_firstRun 19 = .ok (.dup, 1) := by decide +kernel
theorem dX12_firstRun_20 : decode cX12_firstRun 20 = .ok (.getfield 91, 3) := by decide +kernel
theorem dX12_firstRun_23 : decode cX12_firstRun 23 = .ok (.iconst 1, 1) := by decide +kernel
theorem dX12_firstRun_24 : decode cX12_firstRun 24 = .ok (.iadd, 1) := by decide +kernel
theorem dX12_firstRun_25 : decode cX12_firstRun 25 = .ok (.putfield 91, 3) := by decide +kernel
theorem dX12_firstRun_28 : decode cX12_firstRun 28 = .ok (.aload_n 0, 1) := by decide +kernel
theorem dX12_firstRun_29 : decode cX12_firstRun 29 = .ok (.getfield 113, 3) := by decide +kernel
theorem dX12_firstRun_32 : decode cX12_firstRun 32 = .ok (.iload_n 1, 1) := by decide +kernel
theorem dX12_firstRun_33 : decode cX12_firstRun 33 = .ok (.if_icmp .lt 6, 3) := by decide +kernel
theorem dX12_firstRun_36 : decode cX12_firstRun 36 = .ok (.iload 4, 2) := by decide +kernel
theorem dX12_firstRun_38 : decode cX12_firstRun 38 = .ok (.ireturn, 1) := by decide +kernel
theorem dX12_firstRun_39 : decode cX12_firstRun 39 = .ok (.aload_n 0, 1) := by decide +kernel
theorem dX12_firstRun_40 : decode cX12_firstRun 40 = .ok (.iload 4, 2) := by decide +kernel
theorem dX12_firstRun_42 : decode cX12_firstRun 42 = .ok (.aload_n 0, 1) := by decide +kernel
theorem dX12_firstRun_43 : decode cX12_firstRun 43 = .ok (.getfield 113, 3) := by decide +kernel
theorem dX12_firstRun_46 : decode cX12_firstRun 46 = .ok (.iadd, 1) := by decide +kernel
theorem dX12_firstRun_47 : decode cX12_firstRun 47 = .ok (.invokevirtual 116, 3) := by decide +kernel
theorem dX12_firstRun_50 : decode cX12_firstRun 50 = .ok (.istore 4, 2) := by decide +kernel
theorem dX12_firstRun_52 : decode cX12_firstRun 52 = .ok (.goto (-45), 3) := by decide +kernel
theorem dX12_firstRun_55 : decode cX12_firstRun 55 = .ok (.iconst (-1), 1) := by decide +kernel
theorem dX12_firstRun_56 : decode cX12_firstRun 56 = .ok (.ireturn, 1) := by decide +kernel
set_option maxRecDepth 20000 in
theorem ggX12_bestRun_X12_runFrom : GoodIn wsX12_bestRun wsX12_runFrom := by first | exact goodIn_sub (show zy_S _ wsX12_bestRun from (zy_c (zy_t (zy_l (zy_t (zy_t (zy_t (zy_t (zy_t (zy_t (zy_t zy_h))))))))) (zy_a (zy_c (zy_t (zy_l (zy_t (zy_t (zy_t (zy_t (zy_t (zy_t (zy_t (zy_t zy_h)))))))))) (zy_c (zy_t (zy_l (zy_t (zy_t (zy_t (zy_t (zy_t (zy_t (zy_t (zy_t (zy_t zy_h))))))))))) (zy_c (zy_t (zy_l (zy_t zy_h))) zy_n))) (zy_p (fun _ h => (zy_t (zy_r h))))))) (by decide +kernel) | exact goodIn_r _ [8, 9, 10, 2, 11, 12, 13, 14, 15, 16, 17, 18, 19, 20, 21, 22, 23, 24, 25, 26, 27, 28, 29, 30, 31, 32, 33, 34, 35, 36, 37, 38, 39, 40, 41, 42, 43, 44, 45, 46] (by decide +kernel) (by decide +kernel)
set_option maxRecDepth 20000 in
theorem gX12_bestRun_X12_runFrom : GoodIn wsX12_bestRun (wsV RX12 116 RX12 yX12_runFrom wsX12_runFrom) := by first | exact goodIn_app (goodIn_sub (show zy_S _ wsX12_bestRun from (zy_c (zy_t (zy_l (zy_t (zy_t (zy_t zy_h))))) (zy_c (zy_t (zy_l (zy_t (zy_t (zy_t (zy_t zy_h)))))) (zy_c (zy_t (zy_l (zy_t (zy_t (zy_t (zy_t (zy_t zy_h))))))) (zy_c (zy_t (zy_l (zy_t (zy_t (zy_t (zy_t (zy_t (zy_t zy_h)))))))) zy_n))))) (by decide +kernel)) ggX12_bestRun_X12_runFrom | exact goodIn_app (goodIn_of _ (by decide +kernel)) ggX12_bestRun_X12_runFrom
theorem dX12_bestRun_0 : decode cX12_bestRun 0 = .ok (.iconst (-1), 1) := by decide +kernel
theorem dX12_bestRun_1 : decode cX12_bestRun 1 = .ok (.istore_n 2, 1) := by decide +kernel
theorem dX12_bestRun_2 : decode cX12_bestRun 2 = .ok (.iconst 0, 1) := by decide +kernel
theorem dX12_bestRun_3 : decode cX12_bestRun 3 = .ok (.istore_n 3, 1) := by decide +kernel
theorem dX12_bestRun_4 : decode cX12_bestRun 4 = .ok (.aload_n 0, 1) := by decide +kernel
theorem dX12_bestRun_5 : decode cX12_bestRun 5 = .ok (.iconst 0, 1) := by decide +kernel
theorem dX12_bestRun_6 : decode cX12_bestRun 6 = .ok (.invokevirtual 116, 3) := by decide +kernel
theorem dX12_bestRun_9 : decode cX12_bestRun 9 = .ok (.istore 4, 2) := by decide +kernel
theorem dX12_bestRun_11 : decode cX12_bestRun 11 = .ok (.iload 4, 2) := by decide +kernel
theorem dX12_bestRun_13 : decode cX12_bestRun 13 = .ok (.ifCond .lt 79, 3) := by decide +kernel
theorem dX12_bestRun_16 : decode cX12_bestRun 16 = .ok (.aload_n 0, 1) := by decide +kernel
theorem dX12_bestRun_17 : decode cX12_bestRun 17 = .ok (.dup, 1) := by decide +kernel
theorem dX12_bestRun_18 : decode cX12_bestRun 18 = .ok (.getfield 91, 3) := by decide +kernel
theorem dX12_bestRun_21 : decode cX12_bestRun 21 = .ok (.iconst 1, 1) := by decide +kernel
theorem dX12_bestRun_22 : decode cX12_bestRun 22 = .ok (.iadd, 1) := by decide +kernel
theorem dX12_bestRun_23 : decode cX12_bestRun 23 = .ok (.putfield 91, 3) := by decide +kernel
theorem dX12_bestRun_26 : decode cX12_bestRun 26 = .ok (.aload_n 0, 1) := by decide +kernel
theorem dX12_bestRun_27 : decode cX12_bestRun 27 = .ok (.getfield 113, 3) := by decide +kernel
theorem dX12_bestRun_30 : decode cX12_bestRun 30 = .ok (.iload_n 1, 1) := by decide +kernel
theorem dX12_bestRun_31 : decode cX12_bestRun 31 = .ok (.if_icmp .lt 45, 3) := by decide +kernel
theorem dX12_bestRun_34 : decode cX12_bestRun 34 = .ok (.iload_n 2, 1) := by decide +kernel
theorem dX12_bestRun_35 : decode cX12_bestRun 35 = .ok (.ifCond .lt 33, 3) := by decide +kernel
theorem dX12_bestRun_38 : decode cX12_bestRun 38 = .ok (.aload_n 0, 1) := by decide +kernel
theorem dX12_bestRun_39 : decode cX12_bestRun 39 = .ok (.getfield 13, 3) := by decide +kernel
theorem dX12_bestRun_42 : decode cX12_bestRun 42 = .ok (.iconst 2, 1) := by decide +kernel
theorem dX12_bestRun_43 : decode cX12_bestRun 43 = .ok (.if_icmp .ne 14, 3) := by decide +kernel
theorem dX12_bestRun_46 : decode cX12_bestRun 46 = .ok (.aload_n 0, 1) := by decide +kernel
theorem dX12_bestRun_47 : decode cX12_bestRun 47 = .ok (.getfield 113, 3) := by decide +kernel
theorem dX12_bestRun_50 : decode cX12_bestRun 50 = .ok (.iload_n 3, 1) := by decide +kernel
theorem dX12_bestRun_51 : decode cX12_bestRun 51 = .ok (.if_icmp .lt 17, 3) := by decide +kernel
theorem dX12_bestRun_54 : decode cX12_bestRun 54 = .ok (.goto 22, 3) := by decide +kernel
theorem dX12_bestRun_57 : decode cX12_bestRun 57 = .ok (.aload_n 0, 1) := by decide +kernel
theorem dX12_bestRun_58 : decode cX12_bestRun 58 = .ok (.getfield 113, 3) := by decide +kernel
theorem dX12_bestRun_61 : decode cX12_bestRun 61 = .ok (.iload_n 3, 1) := by decide +kernel
theorem dX12_bestRun_62 : decode cX12_bestRun 62 = .ok (.if_icmp .gt 6, 3) := by decide +kernel
theorem dX12_bestRun_65 : decode cX12_bestRun 65 = .ok (.goto 11, 3) := by decide +kernel
theorem dX12_bestRun_68 : decode cX12_bestRun 68 = .ok (.iload 4, 2) := by decide +kernel
theorem dX12_bestRun_70 : decode cX12_bestRun 70 = .ok (.istore_n 2, 1) := by decide +kernel
theorem dX12_bestRun_71 : decode cX12_bestRun 71 = .ok (.aload_n 0, 1) := by decide +kernel
theorem dX12_bestRun_72 : decode cX12_bestRun 72 = .ok (.getfield 113, 3) := by decide +kernel
theorem dX12_bestRun_75 : decode cX12_bestRun 75 = .ok (.istore_n 3, 1) := by decide +kernel
theorem dX12_bestRun_76 : decode cX12_bestRun 76 = .ok (.aload_n 0, 1) := by decide +kernel
theorem dX12_bestRun_77 : decode cX12_bestRun 77 = .ok (.iload 4, 2) := by decide +kernel
theorem dX12_bestRun_79 : decode cX12_bestRun 79 = .ok (.aload_n 0, 1) := by decide +kernel
theorem dX12_bestRun_80 : decode cX12_bestRun 80 = .ok (.getfield 113, 3) := by decide +kernel
theorem dX12_bestRun_83 : decode cX12_bestRun 83 = .ok (.iadd, 1) := by decide +kernel
theorem dX12_bestRun_84 : decode cX12_bestRun 84 = .ok (.invokevirtual 116, 3) := by decide +kernel
theorem dX12_bestRun_87 : decode cX12_bestRun 87 = .ok (.istore 4, 2) := by decide +kernel
theorem dX12_bestRun_89 : decode cX12_bestRun 89 = .ok (.goto (-78), 3) := by decide +kernel
theorem dX12_bestRun_92 : decode cX12_bestRun 92 = .ok (.iload_n 2, 1) := by decide +kernel
theorem dX12_bestRun_93 : decode cX12_bestRun 93 = .ok (.ireturn, 1) := by decide +kernel
theorem dX12_halves_0 : decode cX12_halves 0 = .ok (.iconst (-1), 1) := by decide +kernel
theorem dX12_halves_1 : decode cX12_halves 1 = .ok (.istore_n 2, 1) := by decide +kernel
theorem dX12_halves_2 : decode cX12_halves 2 = .ok (.iconst 0, 1) := by decide +kernel
theorem dX12_halves_3 : decode cX12_halves 3 = .ok (.istore_n 3, 1) := by decide +kernel
theorem dX12_halves_4 : decode cX12_halves 4 = .ok (.iload_n 3, 1) := by decide +kernel
theorem dX12_halves_5 : decode cX12_halves 5 = .ok (.aload_n 0, 1) := by decide +kernel
theorem dX12_halves_6 : decode cX12_halves 6 = .ok (.getfield 76, 3) := by decide +kernel
theorem dX12_halves_9 : decode cX12_halves 9 = .ok (.if_icmp .ge 62, 3) := by decide +kernel
theorem dX12_halves_12 : decode cX12_halves 12 = .ok (.aload_n 0, 1) := by decide +kernel
theorem dX12_halves_13 : decode cX12_halves 13 = .ok (.getfield 32, 3) := by decide +kernel
theorem dX12_halves_16 : decode cX12_halves 16 = .ok (.iload_n 3, 1) := by decide +kernel
theorem dX12_halves_17 : decode cX12_halves 17 = .ok (.iaload, 1) := by decide +kernel
theorem dX12_halves_18 : decode cX12_halves 18 = .ok (.ifCond .ne 6, 3) := by decide +kernel
theorem dX12_halves_21 : decode cX12_halves 21 = .ok (.goto 44, 3) := by decide +kernel
theorem dX12_halves_24 : decode cX12_halves 24 = .ok (.aload_n 0, 1) := by decide +kernel
theorem dX12_halves_25 : decode cX12_halves 25 = .ok (.dup, 1) := by decide +kernel
theorem dX12_halves_26 : decode cX12_halves 26 = .ok (.getfield 91, 3) := by decide +kernel
theorem dX12_halves_29 : decode cX12_halves 29 = .ok (.iconst 1, 1) := by decide +kernel
theorem dX12_halves_30 : decode cX12_halves 30 = .ok (.iadd, 1) := by decide +kernel
theorem dX12_halves_31 : decode cX12_halves 31 = .ok (.putfield 91, 3) := by decide +kernel
theorem dX12_halves_34 : decode cX12_halves 34 = .ok (.aload_n 0, 1) := by decide +kernel
theorem dX12_halves_35 : decode cX12_halves 35 = .ok (.getfield 32, 3) := by decide +kernel
theorem dX12_halves_38 : decode cX12_halves 38 = .ok (.iload_n 3, 1) := by decide +kernel
theorem dX12_halves_39 : decode cX12_halves 39 = .ok (.iaload, 1) := by decide +kernel
theorem dX12_halves_40 : decode cX12_halves 40 = .ok (.iload_n 1, 1) := by decide +kernel
theorem dX12_halves_41 : decode cX12_halves 41 = .ok (.if_icmp .lt 24, 3) := by decide +kernel
theorem dX12_halves_44 : decode cX12_halves 44 = .ok (.iload_n 2, 1) := by decide +kernel
theorem dX12_halves_45 : decode cX12_halves 45 = .ok (.ifCond .lt 18, 3) := by decide +kernel
theorem dX12_halves_48 : decode cX12_halves 48 = .ok (.aload_n 0, 1) := by decide +kernel
theorem dX12_halves_49 : decode cX12_halves 49 = .ok (.getfield 32, 3) := by decide +kernel
theorem dX12_halves_52 : decode cX12_halves 52 = .ok (.iload_n 3, 1) := by decide +kernel
theorem dX12_halves_53 : decode cX12_halves 53 = .ok (.iaload, 1) := by decide +kernel
theorem dX12_halves_54 : decode cX12_halves 54 = .ok (.aload_n 0, 1) := by decide +kernel
theorem dX12_halves_55 : decode cX12_halves 55 = .ok (.getfield 32, 3) := by decide +kernel
theorem dX12_halves_58 : decode cX12_halves 58 = .ok (.iload_n 2, 1) := by decide +kernel
theorem dX12_halves_59 : decode cX12_halves 59 = .ok (.iaload, 1) := by decide +kernel
theorem dX12_halves_60 : decode cX12_halves 60 = .ok (.if_icmp .ge 5, 3) := by decide +kernel
theorem dX12_halves_63 : decode cX12_halves 63 = .ok (.iload_n 3, 1) := by decide +kernel
theorem dX12_halves_64 : decode cX12_halves 64 = .ok (.istore_n 2, 1) := by decide +kernel
theorem dX12_halves_65 : decode cX12_halves 65 = .ok (.iinc 3 1, 3) := by decide +kernel
theorem dX12_halves_68 : decode cX12_halves 68 = .ok (.goto (-64), 3) := by decide +kernel
theorem dX12_halves_71 : decode cX12_halves 71 = .ok (.iload_n 2, 1) := by decide +kernel
theorem dX12_halves_72 : decode cX12_halves 72 = .ok (.ifCond .ge 5, 3) := by decide +kernel
theorem dX12_halves_75 : decode cX12_halves 75 = .ok (.iconst (-1), 1) := by decide +kernel
theorem dX12_halves_76 : decode cX12_halves 76 = .ok (.ireturn, 1) := by decide +kernel
theorem dX12_halves_77 : decode cX12_halves 77 = .ok (.aload_n 0, 1) := by decide +kernel
theorem dX12_halves_78 : decode cX12_halves 78 = .ok (.getfield 32, 3) := by decide +kernel
theorem dX12_halves_81 : decode cX12_halves 81 = .ok (.iload_n 2, 1) := by decide +kernel
theorem dX12_halves_82 : decode cX12_halves 82 = .ok (.iaload, 1) := by decide +kernel
theorem dX12_halves_83 : decode cX12_halves 83 = .ok (.istore_n 3, 1) := by decide +kernel
theorem dX12_halves_84 : decode cX12_halves 84 = .ok (.aload_n 0, 1) := by decide +kernel
theorem dX12_halves_85 : decode cX12_halves 85 = .ok (.getfield 32, 3) := by decide +kernel
theorem dX12_halves_88 : decode cX12_halves 88 = .ok (.iload_n 2, 1) := by decide +kernel
theorem dX12_halves_89 : decode cX12_halves 89 = .ok (.iconst 0, 1) := by decide +kernel
theorem dX12_halves_90 : decode cX12_halves 90 = .ok (.iastore, 1) := by decide +kernel
theorem dX12_halves_91 : decode cX12_halves 91 = .ok (.iload_n 3, 1) := by decide +kernel
theorem dX12_halves_92 : decode cX12_halves 92 = .ok (.iload_n 1, 1) := by decide +kernel
theorem dX12_halves_93 : decode cX12_halves 93 = .ok (.if_icmp .le 19, 3) := by decide +kernel
theorem dX12_halves_96 : decode cX12_halves 96 = .ok (.iload_n 3, 1) := by decide +kernel
theorem dX12_halves_97 : decode cX12_halves 97 = .ok (.iconst 2, 1) := by decide +kernel
theorem dX12_halves_98 : decode cX12_halves 98 = .ok (.idiv, 1) := by decide +kernel
theorem dX12_halves_99 : decode cX12_halves 99 = .ok (.istore_n 3, 1) := by decide +kernel
theorem dX12_halves_100 : decode cX12_halves 100 = .ok (.aload_n 0, 1) := by decide +kernel
theorem dX12_halves_101 : decode cX12_halves 101 = .ok (.getfield 32, 3) := by decide +kernel
theorem dX12_halves_104 : decode cX12_halves 104 = .ok (.iload_n 2, 1) := by decide +kernel
theorem dX12_halves_105 : decode cX12_halves 105 = .ok (.iload_n 3, 1) := by decide +kernel
theorem dX12_halves_106 : decode cX12_halves 106 = .ok (.iadd, 1) := by decide +kernel
theorem dX12_halves_107 : decode cX12_halves 107 = .ok (.iload_n 3, 1) := by decide +kernel
theorem dX12_halves_108 : decode cX12_halves 108 = .ok (.iastore, 1) := by decide +kernel
theorem dX12_halves_109 : decode cX12_halves 109 = .ok (.goto (-18), 3) := by decide +kernel
theorem dX12_halves_112 : decode cX12_halves 112 = .ok (.iload_n 2, 1) := by decide +kernel
theorem dX12_halves_113 : decode cX12_halves 113 = .ok (.ireturn, 1) := by decide +kernel
theorem dX12_join_0 : decode cX12_join 0 = .ok (.iload_n 1, 1) := by decide +kernel
theorem dX12_join_1 : decode cX12_join 1 = .ok (.istore_n 3, 1) := by decide +kernel
theorem dX12_join_2 : decode cX12_join 2 = .ok (.iload_n 2, 1) := by decide +kernel
theorem dX12_join_3 : decode cX12_join 3 = .ok (.istore 4, 2) := by decide +kernel
theorem dX12_join_5 : decode cX12_join 5 = .ok (.iconst 1, 1) := by decide +kernel
theorem dX12_join_6 : decode cX12_join 6 = .ok (.istore 5, 2) := by decide +kernel
theorem dX12_join_8 : decode cX12_join 8 = .ok (.iload 5, 2) := by decide +kernel
theorem dX12_join_10 : decode cX12_join 10 = .ok (.ifCond .eq 87, 3) := by decide +kernel
theorem dX12_join_13 : decode cX12_join 13 = .ok (.iload 4, 2) := by decide +kernel
theorem dX12_join_15 : decode cX12_join 15 = .ok (.aload_n 0, 1) := by decide +kernel
theorem dX12_join_16 : decode cX12_join 16 = .ok (.getfield 103, 3) := by decide +kernel
theorem dX12_join_19 : decode cX12_join 19 = .ok (.if_icmp .ge 78, 3) := by decide +kernel
theorem dX12_join_22 : decode cX12_join 22 = .ok (.iload_n 3, 1) := by decide +kernel
theorem dX12_join_23 : decode cX12_join 23 = .ok (.iload 4, 2) := by decide +kernel
theorem dX12_join_25 : decode cX12_join 25 = .ok (.idiv, 1) := by decide +kernel
theorem dX12_join_26 : decode cX12_join 26 = .ok (.iconst 2, 1) := by decide +kernel
theorem dX12_join_27 : decode cX12_join 27 = .ok (.irem, 1) := by decide +kernel
theorem dX12_join_28 : decode cX12_join 28 = .ok (.ifCond .ne 10, 3) := by decide +kernel
theorem dX12_join_31 : decode cX12_join 31 = .ok (.iload_n 3, 1) := by decide +kernel
theorem dX12_join_32 : decode cX12_join 32 = .ok (.iload 4, 2) := by decide +kernel
theorem dX12_join_34 : decode cX12_join 34 = .ok (.iadd, 1) := by decide +kernel
theorem dX12_join_35 : decode cX12_join 35 = .ok (.goto 7, 3) := by decide +kernel
theorem dX12_join_38 : decode cX12_join 38 = .ok (.iload_n 3, 1) := by decide +kernel
theorem dX12_join_39 : decode cX12_join 39 = .ok (.iload 4, 2) := by decide +kernel
theorem dX12_join_41 : decode cX12_join 41 = .ok (.isub, 1) := by decide +kernel
theorem dX12_join_42 : decode cX12_join 42 = .ok (.istore 6, 2) := by decide +kernel
theorem dX12_join_44 : decode cX12_join 44 = .ok (.aload_n 0, 1) := by decide +kernel
theorem dX12_join_45 : decode cX12_join 45 = .ok (.getfield 32, 3) := by decide +kernel
theorem dX12_join_48 : decode cX12_join 48 = .ok (.iload 6, 2) := by decide +kernel
theorem dX12_join_50 : decode cX12_join 50 = .ok (.iaload, 1) := by decide +kernel
theorem dX12_join_51 : decode cX12_join 51 = .ok (.iload 4, 2) := by decide +kernel
theorem dX12_join_53 : decode cX12_join 53 = .ok (.if_icmp .ne 7, 3) := by decide +kernel
theorem dX12_join_56 : decode cX12_join 56 = .ok (.iconst 1, 1) := by decide +kernel
theorem dX12_join_57 : decode cX12_join 57 = .ok (.goto 4, 3) := by decide +kernel
theorem dX12_join_60 : decode cX12_join 60 = .ok (.iconst 0, 1) := by decide +kernel
theorem dX12_join_61 : decode cX12_join 61 = .ok (.istore 5, 2) := by decide +kernel
theorem dX12_join_63 : decode cX12_join 63 = .ok (.iload 5, 2) := by decide +kernel
theorem dX12_join_65 : decode cX12_join 65 = .ok (.ifCond .ne 6, 3) := by decide +kernel
theorem dX12_join_68 : decode cX12_join 68 = .ok (.goto 29, 3) := by decide +kernel
theorem dX12_join_71 : decode cX12_join 71 = .ok (.aload_n 0, 1) := by decide +kernel
theorem dX12_join_72 : decode cX12_join 72 = .ok (.getfield 32, 3) := by decide +kernel
theorem dX12_join_75 : decode cX12_join 75 = .ok (.iload 6, 2) := by decide +kernel
theorem dX12_join_77 : decode cX12_join 77 = .ok (.iconst 0, 1) := by decide +kernel
theorem dX12_join_78 : decode cX12_join 78 = .ok (.iastore, 1) := by decide +kernel
theorem dX12_join_79 : decode cX12_join 79 = .ok (.iload 6, 2) := by decide +kernel
theorem dX12_join_81 : decode cX12_join 81 = .ok (.iload_n 3, 1) := by decide +kernel
theorem dX12_join_82 : decode cX12_join 82 = .ok (.if_icmp .ge 6, 3) := by decide +kernel
theorem dX12_join_85 : decode cX12_join 85 = .ok (.iload 6, 2) := by decide +kernel
theorem dX12_join_87 : decode cX12_join 87 = .ok (.istore_n 3, 1) := by decide +kernel
theorem dX12_join_88 : decode cX12_join 88 = .ok (.iload 4, 2) := by decide +kernel
theorem dX12_join_90 : decode cX12_join 90 = .ok (.iconst 2, 1) := by decide +kernel
theorem dX12_join_91 : decode cX12_join 91 = .ok (.imul, 1) := by decide +kernel
theorem dX12_join_92 : decode cX12_join 92 = .ok (.istore 4, 2) := by decide +kernel
theorem dX12_join_94 : decode cX12_join 94 = .ok (.goto (-86), 3) := by decide +kernel
theorem dX12_join_97 : decode cX12_join 97 = .ok (.aload_n 0, 1) := by decide +kernel
theorem dX12_join_98 : decode cX12_join 98 = .ok (.getfield 32, 3) := by decide +kernel
theorem dX12_join_101 : decode cX12_join 101 = .ok (.iload_n 3, 1) := by decide +kernel
theorem dX12_join_102 : decode cX12_join 102 = .ok (.iload 4, 2) := by decide +kernel
theorem dX12_join_104 : decode cX12_join 104 = .ok (.iastore, 1) := by decide +kernel
theorem dX12_join_105 : decode cX12_join 105 = .ok (.return_, 1) := by decide +kernel
theorem dX12_power_0 : decode cX12_power 0 = .ok (.iconst 1, 1) := by decide +kernel
theorem dX12_power_1 : decode cX12_power 1 = .ok (.istore_n 1, 1) := by decide +kernel
theorem dX12_power_2 : decode cX12_power 2 = .ok (.iload_n 1, 1) := by decide +kernel
theorem dX12_power_3 : decode cX12_power 3 = .ok (.iload_n 0, 1) := by decide +kernel
theorem dX12_power_4 : decode cX12_power 4 = .ok (.if_icmp .ge 10, 3) := by decide +kernel
theorem dX12_power_7 : decode cX12_power 7 = .ok (.iload_n 1, 1) := by decide +kernel
theorem dX12_power_8 : decode cX12_power 8 = .ok (.iconst 2, 1) := by decide +kernel
theorem dX12_power_9 : decode cX12_power 9 = .ok (.imul, 1) := by decide +kernel
theorem dX12_power_10 : decode cX12_power 10 = .ok (.istore_n 1, 1) := by decide +kernel
theorem dX12_power_11 : decode cX12_power 11 = .ok (.goto (-9), 3) := by decide +kernel
theorem dX12_power_14 : decode cX12_power 14 = .ok (.iload_n 1, 1) := by decide +kernel
theorem dX12_power_15 : decode cX12_power 15 = .ok (.ireturn, 1) := by decide +kernel
theorem dX12_isFree_0 : decode cX12_isFree 0 = .ok (.iload_n 1, 1) := by decide +kernel
theorem dX12_isFree_1 : decode cX12_isFree 1 = .ok (.istore_n 3, 1) := by decide +kernel
theorem dX12_isFree_2 : decode cX12_isFree 2 = .ok (.iload_n 3, 1) := by decide +kernel
theorem dX12_isFree_3 : decode cX12_isFree 3 = .ok (.iload_n 1, 1) := by decide +kernel
theorem dX12_isFree_4 : decode cX12_isFree 4 = .ok (.iload_n 2, 1) := by decide +kernel
theorem dX12_isFree_5 : decode cX12_isFree 5 = .ok (.iadd, 1) := by decide +kernel
theorem dX12_isFree_6 : decode cX12_isFree 6 = .ok (.if_icmp .ge 21, 3) := by decide +kernel
theorem dX12_isFree_9 : decode cX12_isFree 9 = .ok (.aload_n 0, 1) := by decide +kernel
theorem dX12_isFree_10 : decode cX12_isFree 10 = .ok (.getfield 16, 3) := by decide +kernel
theorem dX12_isFree_13 : decode cX12_isFree 13 = .ok (.iload_n 3, 1) := by decide +kernel
theorem dX12_isFree_14 : decode cX12_isFree 14 = .ok (.iaload, 1) := by decide +kernel
theorem dX12_isFree_15 : decode cX12_isFree 15 = .ok (.iconst (-1), 1) := by decide +kernel
theorem dX12_isFree_16 : decode cX12_isFree 16 = .ok (.if_icmp .eq 5, 3) := by decide +kernel
theorem dX12_isFree_19 : decode cX12_isFree 19 = .ok (.iconst 0, 1) := by decide +kernel
theorem dX12_isFree_20 : decode cX12_isFree 20 = .ok (.ireturn, 1) := by decide +kernel
theorem dX12_isFree_21 : decode cX12_isFree 21 = .ok (.iinc 3 1, 3) := by decide +kernel
theorem dX12_isFree_24 : decode cX12_isFree 24 = .ok (.goto (-22), 3) := by decide +kernel
theorem dX12_isFree_27 : decode cX12_isFree 27 = .ok (.iconst 1, 1) := by decide +kernel
theorem dX12_isFree_28 : decode cX12_isFree 28 = .ok (.ireturn, 1) := by decide +kernel
set_option maxRecDepth 20000 in
theorem ggX12_classes_X12_isFree : GoodIn wsX12_classes wsX12_isFree := by first | exact goodIn_sub (show zy_S _ wsX12_classes from (zy_c (zy_t (zy_l (zy_t (zy_t (zy_t (zy_t (zy_t (zy_t (zy_t zy_h))))))))) (zy_a (zy_c (zy_t (zy_l (zy_t (zy_t (zy_t (zy_t (zy_t (zy_t (zy_t (zy_t zy_h)))))))))) zy_n) (zy_p (fun _ h => (zy_t (zy_r h))))))) (by decide +kernel) | exact goodIn_r _ [8, 9, 10, 11, 12, 13, 14, 15, 16, 17, 18, 19, 20, 21, 22, 23, 24, 25, 26, 27, 28, 29, 30, 31, 32, 33, 34, 35, 36, 37, 38, 39, 40, 41, 42, 43, 44, 45] (by decide +kernel) (by decide +kernel)
set_option maxRecDepth 20000 in
theorem gX12_classes_X12_isFree : GoodIn wsX12_classes (wsV RX12 120 RX12 yX12_isFree wsX12_isFree) := by first | exact goodIn_app (goodIn_sub (show zy_S _ wsX12_classes from (zy_c (zy_t (zy_l (zy_t (zy_t (zy_t zy_h))))) (zy_c (zy_t (zy_l (zy_t (zy_t (zy_t (zy_t zy_h)))))) (zy_c (zy_t (zy_l (zy_t (zy_t (zy_t (zy_t (zy_t zy_h))))))) (zy_c (zy_t (zy_l (zy_t (zy_t (zy_t (zy_t (zy_t (zy_t zy_h)))))))) zy_n))))) (by decide +kernel)) ggX12_classes_X12_isFree | exact goodIn_app (goodIn_of _ (by decide +kernel)) ggX12_classes_X12_isFree
theorem dX12_classes_0 : decode cX12_classes 0 = .ok (.iconst 0, 1) := by decide +kernel
theorem dX12_classes_1 : decode cX12_classes 1 = .ok (.istore_n 2, 1) := by decide +kernel
theorem dX12_classes_2 : decode cX12_classes 2 = .ok (.iload_n 2, 1) := by decide +kernel
theorem dX12_classes_3 : decode cX12_classes 3 = .ok (.aload_n 0, 1) := by decide +kernel
theorem dX12_classes_4 : decode cX12_classes 4 = .ok (.getfield 106, 3) := by decide +kernel
theorem dX12_classes_7 : decode cX12_classes 7 = .ok (.if_icmp .ge 66, 3) := by decide +kernel
theorem dX12_classes_10 : decode cX12_classes 10 = .ok (.aload_n 0, 1) := by decide +kernel
theorem dX12_classes_11 : decode cX12_classes 11 = .ok (.getfield 35, 3) := by decide +kernel
theorem dX12_classes_14 : decode cX12_classes 14 = .ok (.iload_n 2, 1) := by decide +kernel
theorem dX12_classes_15 : decode cX12_classes 15 = .ok (.iaload, 1) := by decide +kernel
theorem dX12_classes_16 : decode cX12_classes 16 = .ok (.iload_n 1, 1) := by decide +kernel
theorem dX12_classes_17 : decode cX12_classes 17 = .ok (.if_icmp .eq 6, 3) := by decide +kernel
theorem dX12_classes_20 : decode cX12_classes 20 = .ok (.goto 47, 3) := by decide +kernel
theorem dX12_classes_23 : decode cX12_classes 23 = .ok (.aload_n 0, 1) := by decide +kernel
theorem dX12_classes_24 : decode cX12_classes 24 = .ok (.dup, 1) := by decide +kernel
theorem dX12_classes_25 : decode cX12_classes 25 = .ok (.getfield 91, 3) := by decide +kernel
theorem dX12_classes_28 : decode cX12_classes 28 = .ok (.iconst 1, 1) := by decide +kernel
theorem dX12_classes_29 : decode cX12_classes 29 = .ok (.iadd, 1) := by decide +kernel
theorem dX12_classes_30 : decode cX12_classes 30 = .ok (.putfield 91, 3) := by decide +kernel
theorem dX12_classes_33 : decode cX12_classes 33 = .ok (.bipush 32, 2) := by decide +kernel
theorem dX12_classes_35 : decode cX12_classes 35 = .ok (.iload_n 2, 1) := by decide +kernel
theorem dX12_classes_36 : decode cX12_classes 36 = .ok (.imul, 1) := by decide +kernel
theorem dX12_classes_37 : decode cX12_classes 37 = .ok (.istore_n 3, 1) := by decide +kernel
theorem dX12_classes_38 : decode cX12_classes 38 = .ok (.iload_n 3, 1) := by decide +kernel
theorem dX12_classes_39 : decode cX12_classes 39 = .ok (.bipush 32, 2) := by decide +kernel
theorem dX12_classes_41 : decode cX12_classes 41 = .ok (.iload_n 2, 1) := by decide +kernel
theorem dX12_classes_42 : decode cX12_classes 42 = .ok (.imul, 1) := by decide +kernel
theorem dX12_classes_43 : decode cX12_classes 43 = .ok (.bipush 32, 2) := by decide +kernel
theorem dX12_classes_45 : decode cX12_classes 45 = .ok (.iadd, 1) := by decide +kernel
theorem dX12_classes_46 : decode cX12_classes 46 = .ok (.if_icmp .ge 21, 3) := by decide +kernel
theorem dX12_classes_49 : decode cX12_classes 49 = .ok (.aload_n 0, 1) := by decide +kernel
theorem dX12_classes_50 : decode cX12_classes 50 = .ok (.iload_n 3, 1) := by decide +kernel
theorem dX12_classes_51 : decode cX12_classes 51 = .ok (.iload_n 1, 1) := by decide +kernel
theorem dX12_classes_52 : decode cX12_classes 52 = .ok (.invokevirtual 120, 3) := by decide +kernel
theorem dX12_classes_55 : decode cX12_classes 55 = .ok (.ifCond .eq 5, 3) := by decide +kernel
theorem dX12_classes_58 : decode cX12_classes 58 = .ok (.iload_n 3, 1) := by decide +kernel
theorem dX12_classes_59 : decode cX12_classes 59 = .ok (.ireturn, 1) := by decide +kernel
theorem dX12_classes_60 : decode cX12_classes 60 = .ok (.iload_n 3, 1) := by decide +kernel
theorem dX12_classes_61 : decode cX12_classes 61 = .ok (.iload_n 1, 1) := by decide +kernel
theorem dX12_classes_62 : decode cX12_classes 62 = .ok (.iadd, 1) := by decide +kernel
theorem dX12_classes_63 : decode cX12_classes 63 = .ok (.istore_n 3, 1) := by decide +kernel
theorem dX12_classes_64 : decode cX12_classes 64 = .ok (.goto (-26), 3) := by decide +kernel
theorem dX12_classes_67 : decode cX12_classes 67 = .ok (.iinc 2 1, 3) := by decide +kernel
theorem dX12_classes_70 : decode cX12_classes 70 = .ok (.goto (-68), 3) := by decide +kernel
theorem dX12_classes_73 : decode cX12_classes 73 = .ok (.iconst 0, 1) := by decide +kernel
theorem dX12_classes_74 : decode cX12_classes 74 = .ok (.istore_n 2, 1) := by decide +kernel
theorem dX12_classes_75 : decode cX12_classes 75 = .ok (.iload_n 2, 1) := by decide +kernel
theorem dX12_classes_76 : decode cX12_classes 76 = .ok (.aload_n 0, 1) := by decide +kernel
theorem dX12_classes_77 : decode cX12_classes 77 = .ok (.getfield 106, 3) := by decide +kernel
theorem dX12_classes_80 : decode cX12_classes 80 = .ok (.if_icmp .ge 43, 3) := by decide +kernel
theorem dX12_classes_83 : decode cX12_classes 83 = .ok (.aload_n 0, 1) := by decide +kernel
theorem dX12_classes_84 : decode cX12_classes 84 = .ok (.dup, 1) := by decide +kernel
theorem dX12_classes_85 : decode cX12_classes 85 = .ok (.getfield 91, 3) := by decide +kernel
theorem dX12_classes_88 : decode cX12_classes 88 = .ok (.iconst 1, 1) := by decide +kernel
theorem dX12_classes_89 : decode cX12_classes 89 = .ok (.iadd, 1) := by decide +kernel
theorem dX12_classes_90 : decode cX12_classes 90 = .ok (.putfield 91, 3) := by decide +kernel
theorem dX12_classes_93 : decode cX12_classes 93 = .ok (.aload_n 0, 1) := by decide +kernel
theorem dX12_classes_94 : decode cX12_classes 94 = .ok (.getfield 35, 3) := by decide +kernel
theorem dX12_classes_97 : decode cX12_classes 97 = .ok (.iload_n 2, 1) := by decide +kernel
theorem dX12_classes_98 : decode cX12_classes 98 = .ok (.iaload, 1) := by decide +kernel
theorem dX12_classes_99 : decode cX12_classes 99 = .ok (.ifCond .eq 6, 3) := by decide +kernel
theorem dX12_classes_102 : decode cX12_classes 102 = .ok (.goto 15, 3) := by decide +kernel
theorem dX12_classes_105 : decode cX12_classes 105 = .ok (.aload_n 0, 1) := by decide +kernel
theorem dX12_classes_106 : decode cX12_classes 106 = .ok (.getfield 35, 3) := by decide +kernel
theorem dX12_classes_109 : decode cX12_classes 109 = .ok (.iload_n 2, 1) := by decide +kernel
theorem dX12_classes_110 : decode cX12_classes 110 = .ok (.iload_n 1, 1) := by decide +kernel
theorem dX12_classes_111 : decode cX12_classes 111 = .ok (.iastore, 1) := by decide +kernel
theorem dX12_classes_112 : decode cX12_classes 112 = .ok (.bipush 32, 2) := by decide +kernel
theorem dX12_classes_114 : decode cX12_classes 114 = .ok (.iload_n 2, 1) := by decide +kernel
theorem dX12_classes_115 : decode cX12_classes 115 = .ok (.imul, 1) := by decide +kernel
theorem dX12_classes_116 : decode cX12_classes 116 = .ok (.ireturn, 1) := by decide +kernel
theorem dX12_classes_117 : decode cX12_classes 117 = .ok (.iinc 2 1, 3) := by decide +kernel
theorem dX12_classes_120 : decode cX12_classes 120 = .ok (.goto (-45), 3) := by decide +kernel
theorem dX12_classes_123 : decode cX12_classes 123 = .ok (.iconst (-1), 1) := by decide +kernel
theorem dX12_classes_124 : decode cX12_classes 124 = .ok (.ireturn, 1) := by decide +kernel
theorem dX12_rowOfPages_0 : decode cX12_rowOfPages 0 = .ok (.iconst 0, 1) := by decide +kernel
theorem dX12_rowOfPages_1 : decode cX12_rowOfPages 1 = .ok (.istore_n 2, 1) := by decide +kernel
theorem dX12_rowOfPages_2 : decode cX12_rowOfPages 2 = .ok (.iconst 0, 1) := by decide +kernel
theorem dX12_rowOfPages_3 : decode cX12_rowOfPages 3 = .ok (.istore_n 3, 1) := by decide +kernel
theorem dX12_rowOfPages_4 : decode cX12_rowOfPages 4 = .ok (.iload_n 3, 1) := by decide +kernel
theorem dX12_rowOfPages_5 : decode cX12_rowOfPages 5 = .ok (.aload_n 0, 1) := by decide +kernel
theorem dX12_rowOfPages_6 : decode cX12_rowOfPages 6 = .ok (.getfield 106, 3) := by decide +kernel
theorem dX12_rowOfPages_9 : decode cX12_rowOfPages 9 = .ok (.if_icmp .ge 81, 3) := by decide +kernel
theorem dX12_rowOfPages_12 : decode cX12_rowOfPages 12 = .ok (.aload_n 0, 1) := by decide +kernel
theorem dX12_rowOfPages_13 : decode cX12_rowOfPages 13 = .ok (.dup, 1) := by decide +kernel
theorem dX12_rowOfPages_14 : decode cX12_rowOfPages 14 = .ok (.getfield 91, 3) := by decide +kernel
theorem dX12_rowOfPages_17 : decode cX12_rowOfPages 17 = .ok (.iconst 1, 1) := by decide +kernel
theorem dX12_rowOfPages_18 : decode cX12_rowOfPages 18 = .ok (.iadd, 1) := by decide +kernel
theorem dX12_rowOfPages_19 : decode cX12_rowOfPages 19 = .ok (.putfield 91, 3) := by decide +kernel
theorem dX12_rowOfPages_22 : decode cX12_rowOfPages 22 = .ok (.aload_n 0, 1) := by decide +kernel
theorem dX12_rowOfPages_23 : decode cX12_rowOfPages 23 = .ok (.getfield 35, 3) := by decide +kernel
theorem dX12_rowOfPages_26 : decode cX12_rowOfPages 26 = .ok (.iload_n 3, 1) := by decide +kernel
theorem dX12_rowOfPages_27 : decode cX12_rowOfPages 27 = .ok (.iaload, 1) := by decide +kernel
theorem dX12_rowOfPages_28 : decode cX12_rowOfPages 28 = .ok (.ifCond .ne 9, 3) := by decide +kernel
theorem dX12_rowOfPages_31 : decode cX12_rowOfPages 31 = .ok (.iload_n 2, 1) := by decide +kernel
theorem dX12_rowOfPages_32 : decode cX12_rowOfPages 32 = .ok (.iconst 1, 1) := by decide +kernel
theorem dX12_rowOfPages_33 : decode cX12_rowOfPages 33 = .ok (.iadd, 1) := by decide +kernel
theorem dX12_rowOfPages_34 : decode cX12_rowOfPages 34 = .ok (.goto 4, 3) := by decide +kernel
theorem dX12_rowOfPages_37 : decode cX12_rowOfPages 37 = .ok (.iconst 0, 1) := by decide +kernel
theorem dX12_rowOfPages_38 : decode cX12_rowOfPages 38 = .ok (.istore_n 2, 1) := by decide +kernel
theorem dX12_rowOfPages_39 : decode cX12_rowOfPages 39 = .ok (.iload_n 2, 1) := by decide +kernel
theorem dX12_rowOfPages_40 : decode cX12_rowOfPages 40 = .ok (.iload_n 1, 1) := by decide +kernel
theorem dX12_rowOfPages_41 : decode cX12_rowOfPages 41 = .ok (.if_icmp .ge 6, 3) := by decide +kernel
theorem dX12_rowOfPages_44 : decode cX12_rowOfPages 44 = .ok (.goto 40, 3) := by decide +kernel
theorem dX12_rowOfPages_47 : decode cX12_rowOfPages 47 = .ok (.iload_n 3, 1) := by decide +kernel
theorem dX12_rowOfPages_48 : decode cX12_rowOfPages 48 = .ok (.iload_n 1, 1) := by decide +kernel
theorem dX12_rowOfPages_49 : decode cX12_rowOfPages 49 = .ok (.isub, 1) := by decide +kernel
theorem dX12_rowOfPages_50 : decode cX12_rowOfPages 50 = .ok (.iconst 1, 1) := by decide +kernel
theorem dX12_rowOfPages_51 : decode cX12_rowOfPages 51 = .ok (.iadd, 1) := by decide +kernel
theorem dX12_rowOfPages_52 : decode cX12_rowOfPages 52 = .ok (.istore 4, 2) := by decide +kernel
theorem dX12_rowOfPages_54 : decode cX12_rowOfPages 54 = .ok (.iload 4, 2) := by decide +kernel
theorem dX12_rowOfPages_56 : decode cX12_rowOfPages 56 = .ok (.iload_n 3, 1) := by decide +kernel
theorem dX12_rowOfPages_57 : decode cX12_rowOfPages 57 = .ok (.if_icmp .gt 18, 3) := by decide +kernel
theorem dX12_rowOfPages_60 : decode cX12_rowOfPages 60 = .ok (.aload_n 0, 1) := by decide +kernel
theorem dX12_rowOfPages_61 : decode cX12_rowOfPages 61 = .ok (.getfield 35, 3) := by decide +kernel
theorem dX12_rowOfPages_64 : decode cX12_rowOfPages 64 = .ok (.iload 4, 2) := by decide +kernel
theorem dX12_rowOfPages_66 : decode cX12_rowOfPages 66 = .ok (.bipush 64, 2) := by decide +kernel
theorem dX12_rowOfPages_68 : decode cX12_rowOfPages 68 = .ok (.iastore, 1) := by decide +kernel
theorem dX12_rowOfPages_69 : decode cX12_rowOfPages 69 = .ok (.iinc 4 1, 3) := by decide +kernel
theorem dX12_rowOfPages_72 : decode cX12_rowOfPages 72 = .ok (.goto (-18), 3) := by decide +kernel
theorem dX12_rowOfPages_75 : decode cX12_rowOfPages 75 = .ok (.bipush 32, 2) := by decide +kernel
theorem dX12_rowOfPages_77 : decode cX12_rowOfPages 77 = .ok (.iload_n 3, 1) := by decide +kernel
theorem dX12_rowOfPages_78 : decode cX12_rowOfPages 78 = .ok (.iload_n 1, 1) := by decide +kernel
theorem dX12_rowOfPages_79 : decode cX12_rowOfPages 79 = .ok (.isub, 1) := by decide +kernel
theorem dX12_rowOfPages_80 : decode cX12_rowOfPages 80 = .ok (.iconst 1, 1) := by decide +kernel
theorem dX12_rowOfPages_81 : decode cX12_rowOfPages 81 = .ok (.iadd, 1) := by decide +kernel
theorem dX12_rowOfPages_82 : decode cX12_rowOfPages 82 = .ok (.imul, 1) := by decide +kernel
theorem dX12_rowOfPages_83 : decode cX12_rowOfPages 83 = .ok (.ireturn, 1) := by decide +kernel
theorem dX12_rowOfPages_84 : decode cX12_rowOfPages 84 = .ok (.iinc 3 1, 3) := by decide +kernel
theorem dX12_rowOfPages_87 : decode cX12_rowOfPages 87 = .ok (.goto (-83), 3) := by decide +kernel
theorem dX12_rowOfPages_90 : decode cX12_rowOfPages 90 = .ok (.iconst (-1), 1) := by decide +kernel
theorem dX12_rowOfPages_91 : decode cX12_rowOfPages 91 = .ok (.ireturn, 1) := by decide +kernel
set_option maxRecDepth 20000 in
theorem ggX12_bits_X12_power : GoodIn wsX12_bits wsX12_power := by first | exact goodIn_sub (show zy_S _ wsX12_bits from (zy_c (zy_t (zy_l (zy_t (zy_t (zy_t (zy_t (zy_t (zy_t (zy_t (zy_t (zy_t zy_h))))))))))) zy_n)) (by decide +kernel) | exact goodIn_r _ [10] (by decide +kernel) (by decide +kernel)
set_option maxRecDepth 20000 in
theorem gX12_bits_X12_power : GoodIn wsX12_bits (va_wsS RX12 124 yX12_power wsX12_power) := by first | exact goodIn_app (goodIn_sub (show zy_S _ wsX12_bits from (zy_c (zy_t (zy_l (zy_t (zy_t (zy_t (zy_t (zy_t (zy_t zy_h)))))))) (zy_c (zy_t (zy_l (zy_t (zy_t (zy_t (zy_t (zy_t (zy_t (zy_t zy_h))))))))) (zy_c (zy_t (zy_l (zy_t (zy_t (zy_t (zy_t (zy_t (zy_t (zy_t (zy_t zy_h)))))))))) zy_n)))) (by decide +kernel)) ggX12_bits_X12_power | exact goodIn_app (goodIn_of _ (by decide +kernel)) ggX12_bits_X12_power
set_option maxRecDepth 20000 in
theorem ggX12_bits_X12_isFree : GoodIn wsX12_bits wsX12_isFree := by first | exact goodIn_sub (show zy_S _ wsX12_bits from (zy_c (zy_t (zy_l (zy_t (zy_t (zy_t (zy_t (zy_t (zy_t (zy_t (zy_t (zy_t (zy_t (zy_t (zy_t (zy_t zy_h))))))))))))))) (zy_a (zy_c (zy_t (zy_l (zy_t (zy_t (zy_t (zy_t (zy_t (zy_t (zy_t (zy_t (zy_t (zy_t (zy_t (zy_t (zy_t (zy_t zy_h)))))))))))))))) zy_n) (zy_p (fun _ h => (zy_t (zy_r h))))))) (by decide +kernel) | exact goodIn_r _ [14, 15, 16, 17, 18, 19, 20, 21, 22, 23, 24, 25, 26, 27, 28, 29, 30, 31, 32, 33, 34, 35, 36, 37, 38, 39, 40, 41, 42, 43, 44, 45, 46, 47, 48, 49, 50, 51] (by decide +kernel) (by decide +kernel)
set_option maxRecDepth 20000 in
theorem gX12_bits_X12_isFree : GoodIn wsX12_bits (wsV RX12 120 RX12 yX12_isFree wsX12_isFree) := by first | exact goodIn_app (goodIn_sub (show zy_S _ wsX12_bits from (zy_c (zy_t (zy_l (zy_t (zy_t (zy_t (zy_t (zy_t (zy_t (zy_t (zy_t (zy_t (zy_t zy_h)))))))))))) (zy_c (zy_t (zy_l (zy_t (zy_t (zy_t (zy_t (zy_t (zy_t (zy_t (zy_t (zy_t (zy_t (zy_t zy_h))))))))))))) (zy_c (zy_t (zy_l (zy_t (zy_t (zy_t (zy_t (zy_t (zy_t (zy_t (zy_t (zy_t (zy_t (zy_t (zy_t zy_h)))))))))))))) (zy_c (zy_t (zy_l (zy_t (zy_t (zy_t (zy_t (zy_t (zy_t (zy_t (zy_t zy_h)))))))))) zy_n))))) (by decide +kernel)) ggX12_bits_X12_isFree | exact goodIn_app (goodIn_of _ (by decide +kernel)) ggX12_bits_X12_isFree
theorem dX12_bits_0 : decode cX12_bits 0 = .ok (.bipush 8, 2) := by decide +kernel
theorem dX12_bits_2 : decode cX12_bits 2 = .ok (.iload_n 1, 1) := by decide +kernel
theorem dX12_bits_3 : decode cX12_bits 3 = .ok (.invokestatic 124, 3) := by decide +kernel
theorem dX12_bits_6 : decode cX12_bits 6 = .ok (.invokestatic 127, 3) := by decide +kernel
theorem dX12_bits_9 : decode cX12_bits 9 = .ok (.istore_n 2, 1) := by decide +kernel
theorem dX12_bits_10 : decode cX12_bits 10 = .ok (.iconst 0, 1) := by decide +kernel
theorem dX12_bits_11 : decode cX12_bits 11 = .ok (.istore_n 3, 1) := by decide +kernel
theorem dX12_bits_12 : decode cX12_bits 12 = .ok (.iload_n 3, 1) := by decide +kernel
theorem dX12_bits_13 : decode cX12_bits 13 = .ok (.iload_n 1, 1) := by decide +kernel
theorem dX12_bits_14 : decode cX12_bits 14 = .ok (.iadd, 1) := by decide +kernel
theorem dX12_bits_15 : decode cX12_bits 15 = .ok (.aload_n 0, 1) := by decide +kernel
theorem dX12_bits_16 : decode cX12_bits 16 = .ok (.getfield 76, 3) := by decide +kernel
theorem dX12_bits_19 : decode cX12_bits 19 = .ok (.iconst 4, 1) := by decide +kernel
theorem dX12_bits_20 : decode cX12_bits 20 = .ok (.idiv, 1) := by decide +kernel
theorem dX12_bits_21 : decode cX12_bits 21 = .ok (.if_icmp .gt 37, 3) := by decide +kernel
theorem dX12_bits_24 : decode cX12_bits 24 = .ok (.aload_n 0, 1) := by decide +kernel
theorem dX12_bits_25 : decode cX12_bits 25 = .ok (.dup, 1) := by decide +kernel
theorem dX12_bits_26 : decode cX12_bits 26 = .ok (.getfield 91, 3) := by decide +kernel
theorem dX12_bits_29 : decode cX12_bits 29 = .ok (.iconst 1, 1) := by decide +kernel
theorem dX12_bits_30 : decode cX12_bits 30 = .ok (.iadd, 1) := by decide +kernel
theorem dX12_bits_31 : decode cX12_bits 31 = .ok (.putfield 91, 3) := by decide +kernel
theorem dX12_bits_34 : decode cX12_bits 34 = .ok (.aload_n 0, 1) := by decide +kernel
theorem dX12_bits_35 : decode cX12_bits 35 = .ok (.iconst 4, 1) := by decide +kernel
theorem dX12_bits_36 : decode cX12_bits 36 = .ok (.iload_n 3, 1) := by decide +kernel
theorem dX12_bits_37 : decode cX12_bits 37 = .ok (.imul, 1) := by decide +kernel
theorem dX12_bits_38 : decode cX12_bits 38 = .ok (.iconst 4, 1) := by decide +kernel
theorem dX12_bits_39 : decode cX12_bits 39 = .ok (.iload_n 1, 1) := by decide +kernel
theorem dX12_bits_40 : decode cX12_bits 40 = .ok (.imul, 1) := by decide +kernel
theorem dX12_bits_41 : decode cX12_bits 41 = .ok (.invokevirtual 120, 3) := by decide +kernel
theorem dX12_bits_44 : decode cX12_bits 44 = .ok (.ifCond .eq 7, 3) := by decide +kernel
theorem dX12_bits_47 : decode cX12_bits 47 = .ok (.iconst 4, 1) := by decide +kernel
theorem dX12_bits_48 : decode cX12_bits 48 = .ok (.iload_n 3, 1) := by decide +kernel
theorem dX12_bits_49 : decode cX12_bits 49 = .ok (.imul, 1) := by decide +kernel
theorem dX12_bits_50 : decode cX12_bits 50 = .ok (.ireturn, 1) := by decide +kernel
theorem dX12_bits_51 : decode cX12_bits 51 = .ok (.iload_n 3, 1) := by decide +kernel
theorem dX12_bits_52 : decode cX12_bits 52 = .ok (.iload_n 2, 1) := by decide +kernel
theorem dX12_bits_53 : decode cX12_bits 53 = .ok (.iadd, 1) := by decide +kernel
theorem dX12_bits_54 : decode cX12_bits 54 = .ok (.istore_n 3, 1) := by decide +kernel
theorem dX12_bits_55 : decode cX12_bits 55 = .ok (.goto (-43), 3) := by decide +kernel
theorem dX12_bits_58 : decode cX12_bits 58 = .ok (.iconst (-1), 1) := by decide +kernel
theorem dX12_bits_59 : decode cX12_bits 59 = .ok (.ireturn, 1) := by decide +kernel
theorem dX12_listOf_0 : decode cX12_listOf 0 = .ok (.iconst 0, 1) := by decide +kernel
theorem dX12_listOf_1 : decode cX12_listOf 1 = .ok (.istore_n 1, 1) := by decide +kernel
theorem dX12_listOf_2 : decode cX12_listOf 2 = .ok (.iconst 2, 1) := by decide +kernel
theorem dX12_listOf_3 : decode cX12_listOf 3 = .ok (.iload_n 1, 1) := by decide +kernel
theorem dX12_listOf_4 : decode cX12_listOf 4 = .ok (.ishl, 1) := by decide +kernel
theorem dX12_listOf_5 : decode cX12_listOf 5 = .ok (.iload_n 0, 1) := by decide +kernel
theorem dX12_listOf_6 : decode cX12_listOf 6 = .ok (.if_icmp .gt 9, 3) := by decide +kernel
theorem dX12_listOf_9 : decode cX12_listOf 9 = .ok (.iinc 1 1, 3) := by decide +kernel
theorem dX12_listOf_12 : decode cX12_listOf 12 = .ok (.goto (-10), 3) := by decide +kernel
theorem dX12_listOf_15 : decode cX12_listOf 15 = .ok (.iconst 4, 1) := by decide +kernel
theorem dX12_listOf_16 : decode cX12_listOf 16 = .ok (.iload_n 1, 1) := by decide +kernel
theorem dX12_listOf_17 : decode cX12_listOf 17 = .ok (.imul, 1) := by decide +kernel
theorem dX12_listOf_18 : decode cX12_listOf 18 = .ok (.iconst 4, 1) := by decide +kernel
theorem dX12_listOf_19 : decode cX12_listOf 19 = .ok (.iload_n 0, 1) := by decide +kernel
theorem dX12_listOf_20 : decode cX12_listOf 20 = .ok (.iconst 1, 1) := by decide +kernel
theorem dX12_listOf_21 : decode cX12_listOf 21 = .ok (.iload_n 1, 1) := by decide +kernel
theorem dX12_listOf_22 : decode cX12_listOf 22 = .ok (.ishl, 1) := by decide +kernel
theorem dX12_listOf_23 : decode cX12_listOf 23 = .ok (.isub, 1) := by decide +kernel
theorem dX12_listOf_24 : decode cX12_listOf 24 = .ok (.imul, 1) := by decide +kernel
theorem dX12_listOf_25 : decode cX12_listOf 25 = .ok (.iconst 1, 1) := by decide +kernel
theorem dX12_listOf_26 : decode cX12_listOf 26 = .ok (.iload_n 1, 1) := by decide +kernel
theorem dX12_listOf_27 : decode cX12_listOf 27 = .ok (.ishl, 1) := by decide +kernel
theorem dX12_listOf_28 : decode cX12_listOf 28 = .ok (.idiv, 1) := by decide +kernel
theorem dX12_listOf_29 : decode cX12_listOf 29 = .ok (.iadd, 1) := by decide +kernel
theorem dX12_listOf_30 : decode cX12_listOf 30 = .ok (.ireturn, 1) := by decide +kernel
set_option maxRecDepth 20000 in
theorem ggX12_toList_X12_listOf : GoodIn wsX12_toList wsX12_listOf := by first | exact goodIn_sub (show zy_S _ wsX12_toList from (zy_c (zy_t (zy_l (zy_t (zy_t (zy_t (zy_t (zy_t zy_h))))))) zy_n)) (by decide +kernel) | exact goodIn_r _ [6] (by decide +kernel) (by decide +kernel)
set_option maxRecDepth 20000 in
theorem gX12_toList_X12_listOf : GoodIn wsX12_toList (va_wsS RX12 133 yX12_listOf wsX12_listOf) := by first | exact goodIn_app (goodIn_sub (show zy_S _ wsX12_toList from (zy_c (zy_t (zy_l (zy_t (zy_t zy_h)))) (zy_c (zy_t (zy_l (zy_t (zy_t (zy_t zy_h))))) (zy_c (zy_t (zy_l (zy_t (zy_t (zy_t (zy_t zy_h)))))) zy_n)))) (by decide +kernel)) ggX12_toList_X12_listOf | exact goodIn_app (goodIn_of _ (by decide +kernel)) ggX12_toList_X12_listOf
theorem dX12_toList_0 : decode cX12_toList 0 = .ok (.iload_n 2, 1) := by decide +kernel
theorem dX12_toList_1 : decode cX12_toList 1 = .ok (.invokestatic 133, 3) := by decide +kernel
theorem dX12_toList_4 : decode cX12_toList 4 = .ok (.istore_n 3, 1) := by decide +kernel
theorem dX12_toList_5 : decode cX12_toList 5 = .ok (.aload_n 0, 1) := by decide +kernel
theorem dX12_toList_6 : decode cX12_toList 6 = .ok (.getfield 42, 3) := by decide +kernel
theorem dX12_toList_9 : decode cX12_toList 9 = .ok (.iload_n 3, 1) := by decide +kernel
theorem dX12_toList_10 : decode cX12_toList 10 = .ok (.iaload, 1) := by decide +kernel
theorem dX12_toList_11 : decode cX12_toList 11 = .ok (.istore 4, 2) := by decide +kernel
theorem dX12_toList_13 : decode cX12_toList 13 = .ok (.iload 4, 2) := by decide +kernel
theorem dX12_toList_15 : decode cX12_toList 15 = .ok (.ifCond .le 37, 3) := by decide +kernel
theorem dX12_toList_18 : decode cX12_toList 18 = .ok (.aload_n 0, 1) := by decide +kernel
theorem dX12_toList_19 : decode cX12_toList 19 = .ok (.getfield 39, 3) := by decide +kernel
theorem dX12_toList_22 : decode cX12_toList 22 = .ok (.iload_n 3, 1) := by decide +kernel
theorem dX12_toList_23 : decode cX12_toList 23 = .ok (.sipush 1024, 3) := by decide +kernel
theorem dX12_toList_26 : decode cX12_toList 26 = .ok (.imul, 1) := by decide +kernel
theorem dX12_toList_27 : decode cX12_toList 27 = .ok (.iload 4, 2) := by decide +kernel
theorem dX12_toList_29 : decode cX12_toList 29 = .ok (.iadd, 1) := by decide +kernel
theorem dX12_toList_30 : decode cX12_toList 30 = .ok (.aload_n 0, 1) := by decide +kernel
theorem dX12_toList_31 : decode cX12_toList 31 = .ok (.getfield 39, 3) := by decide +kernel
theorem dX12_toList_34 : decode cX12_toList 34 = .ok (.iload_n 3, 1) := by decide +kernel
theorem dX12_toList_35 : decode cX12_toList 35 = .ok (.sipush 1024, 3) := by decide +kernel
theorem dX12_toList_38 : decode cX12_toList 38 = .ok (.imul, 1) := by decide +kernel
theorem dX12_toList_39 : decode cX12_toList 39 = .ok (.iload 4, 2) := by decide +kernel
theorem dX12_toList_41 : decode cX12_toList 41 = .ok (.iadd, 1) := by decide +kernel
theorem dX12_toList_42 : decode cX12_toList 42 = .ok (.iconst 1, 1) := by decide +kernel
theorem dX12_toList_43 : decode cX12_toList 43 = .ok (.isub, 1) := by decide +kernel
theorem dX12_toList_44 : decode cX12_toList 44 = .ok (.iaload, 1) := by decide +kernel
theorem dX12_toList_45 : decode cX12_toList 45 = .ok (.iastore, 1) := by decide +kernel
theorem dX12_toList_46 : decode cX12_toList 46 = .ok (.iinc 4 (-1), 3) := by decide +kernel
theorem dX12_toList_49 : decode cX12_toList 49 = .ok (.goto (-36), 3) := by decide +kernel
theorem dX12_toList_52 : decode cX12_toList 52 = .ok (.aload_n 0, 1) := by decide +kernel
theorem dX12_toList_53 : decode cX12_toList 53 = .ok (.getfield 39, 3) := by decide +kernel
theorem dX12_toList_56 : decode cX12_toList 56 = .ok (.iload_n 3, 1) := by decide +kernel
theorem dX12_toList_57 : decode cX12_toList 57 = .ok (.sipush 1024, 3) := by decide +kernel
theorem dX12_toList_60 : decode cX12_toList 60 = .ok (.imul, 1) := by decide +kernel
theorem dX12_toList_61 : decode cX12_toList 61 = .ok (.iload_n 1, 1) := by decide +kernel
theorem dX12_toList_62 : decode cX12_toList 62 = .ok (.iastore, 1) := by decide +kernel
theorem dX12_toList_63 : decode cX12_toList 63 = .ok (.aload_n 0, 1) := by decide +kernel
theorem dX12_toList_64 : decode cX12_toList 64 = .ok (.getfield 42, 3) := by decide +kernel
theorem dX12_toList_67 : decode cX12_toList 67 = .ok (.iload_n 3, 1) := by decide +kernel
theorem dX12_toList_68 : decode cX12_toList 68 = .ok (.dup2, 1) := by decide +kernel
theorem dX12_toList_69 : decode cX12_toList 69 = .ok (.iaload, 1) := by decide +kernel
theorem dX12_toList_70 : decode cX12_toList 70 = .ok (.iconst 1, 1) := by decide +kernel
theorem dX12_toList_71 : decode cX12_toList 71 = .ok (.iadd, 1) := by decide +kernel
theorem dX12_toList_72 : decode cX12_toList 72 = .ok (.iastore, 1) := by decide +kernel
theorem dX12_toList_73 : decode cX12_toList 73 = .ok (.return_, 1) := by decide +kernel
set_option maxRecDepth 20000 in
theorem ggX12_fromList_X12_listOf : GoodIn wsX12_fromList wsX12_listOf := by first | exact goodIn_sub (show zy_S _ wsX12_fromList from (zy_c (zy_t (zy_l (zy_t (zy_t (zy_t (zy_t (zy_t zy_h))))))) zy_n)) (by decide +kernel) | exact goodIn_r _ [6] (by decide +kernel) (by decide +kernel)
set_option maxRecDepth 20000 in
theorem gX12_fromList_X12_listOf : GoodIn wsX12_fromList (va_wsS RX12 133 yX12_listOf wsX12_listOf) := by first | exact goodIn_app (goodIn_sub (show zy_S _ wsX12_fromList from (zy_c (zy_t (zy_l (zy_t (zy_t zy_h)))) (zy_c (zy_t (zy_l (zy_t (zy_t (zy_t zy_h))))) (zy_c (zy_t (zy_l (zy_t (zy_t (zy_t (zy_t zy_h)))))) zy_n)))) (by decide +kernel)) ggX12_fromList_X12_listOf | exact goodIn_app (goodIn_of _ (by decide +kernel)) ggX12_fromList_X12_listOf
theorem dX12_fromList_0 : decode cX12_fromList 0 = .ok (.iload_n 2, 1) := by decide +kernel
theorem dX12_fromList_1 : decode cX12_fromList 1 = .ok (.invokestatic 133, 3) := by decide +kernel
theorem dX12_fromList_4 : decode cX12_fromList 4 = .ok (.istore_n 3, 1) := by decide +kernel
theorem dX12_fromList_5 : decode cX12_fromList 5 = .ok (.iconst 0, 1) := by decide +kernel
theorem dX12_fromList_6 : decode cX12_fromList 6 = .ok (.istore 4, 2) := by decide +kernel
theorem dX12_fromList_8 : decode cX12_fromList 8 = .ok (.aload_n 0, 1) := by decide +kernel
theorem dX12_fromList_9 : decode cX12_fromList 9 = .ok (.getfield 39, 3) := by decide +kernel
theorem dX12_fromList_12 : decode cX12_fromList 12 = .ok (.iload_n 3, 1) := by decide +kernel
theorem dX12_fromList_13 : decode cX12_fromList 13 = .ok (.sipush 1024, 3) := by decide +kernel
theorem dX12_fromList_16 : decode cX12_fromList 16 = .ok (.imul, 1) := by decide +kernel
theorem dX12_fromList_17 : decode cX12_fromList 17 = .ok (.iload 4, 2) := by decide +kernel
theorem dX12_fromList_19 : decode cX12_fromList 19 = .ok (.iadd, 1) := by decide +kernel
theorem dX12_fromList_20 : decode cX12_fromList 20 = .ok (.iaload, 1) := by decide +kernel
theorem dX12_fromList_21 : decode cX12_fromList 21 = .ok (.iload_n 1, 1) := by decide +kernel
theorem dX12_fromList_22 : decode cX12_fromList 22 = .ok (.if_icmp .eq 9, 3) := by decide +kernel
theorem dX12_fromList_25 : decode cX12_fromList 25 = .ok (.iinc 4 1, 3) := by decide +kernel
theorem dX12_fromList_28 : decode cX12_fromList 28 = .ok (.goto (-20), 3) := by decide +kernel
theorem dX12_fromList_31 : decode cX12_fromList 31 = .ok (.aload_n 0, 1) := by decide +kernel
theorem dX12_fromList_32 : decode cX12_fromList 32 = .ok (.getfield 42, 3) := by decide +kernel
theorem dX12_fromList_35 : decode cX12_fromList 35 = .ok (.iload_n 3, 1) := by decide +kernel
theorem dX12_fromList_36 : decode cX12_fromList 36 = .ok (.dup2, 1) := by decide +kernel
theorem dX12_fromList_37 : decode cX12_fromList 37 = .ok (.iaload, 1) := by decide +kernel
theorem dX12_fromList_38 : decode cX12_fromList 38 = .ok (.iconst 1, 1) := by decide +kernel
theorem dX12_fromList_39 : decode cX12_fromList 39 = .ok (.isub, 1) := by decide +kernel
theorem dX12_fromList_40 : decode cX12_fromList 40 = .ok (.iastore, 1) := by decide +kernel
theorem dX12_fromList_41 : decode cX12_fromList 41 = .ok (.iload 4, 2) := by decide +kernel
theorem dX12_fromList_43 : decode cX12_fromList 43 = .ok (.aload_n 0, 1) := by decide +kernel
theorem dX12_fromList_44 : decode cX12_fromList 44 = .ok (.getfield 42, 3) := by decide +kernel
theorem dX12_fromList_47 : decode cX12_fromList 47 = .ok (.iload_n 3, 1) := by decide +kernel
theorem dX12_fromList_48 : decode cX12_fromList 48 = .ok (.iaload, 1) := by decide +kernel
theorem dX12_fromList_49 : decode cX12_fromList 49 = .ok (.if_icmp .ge 37, 3) := by decide +kernel
theorem dX12_fromList_52 : decode cX12_fromList 52 = .ok (.aload_n 0, 1) := by decide +kernel
theorem dX12_fromList_53 : decode cX12_fromList 53 = .ok (.getfield 39, 3) := by decide +kernel
theorem dX12_fromList_56 : decode cX12_fromList 56 = .ok (.iload_n 3, 1) := by decide +kernel
theorem dX12_fromList_57 : decode cX12_fromList 57 = .ok (.sipush 1024, 3) := by decide +kernel
theorem dX12_fromList_60 : decode cX12_fromList 60 = .ok (.imul, 1) := by decide +kernel
theorem dX12_fromList_61 : decode cX12_fromList 61 = .ok (.iload 4, 2) := by decide +kernel
theorem dX12_fromList_63 : decode cX12_fromList 63 = .ok (.iadd, 1) := by decide +kernel
theorem dX12_fromList_64 : decode cX12_fromList 64 = .ok (.aload_n 0, 1) := by decide +kernel
theorem dX12_fromList_65 : decode cX12_fromList 65 = .ok (.getfield 39, 3) := by decide +kernel
theorem dX12_fromList_68 : decode cX12_fromList 68 = .ok (.iload_n 3, 1) := by decide +kernel
theorem dX12_fromList_69 : decode cX12_fromList 69 = .ok (.sipush 1024, 3) := by decide +kernel
theorem dX12_fromList_72 : decode cX12_fromList 72 = .ok (.imul, 1) := by decide +kernel
theorem dX12_fromList_73 : decode cX12_fromList 73 = .ok (.iload 4, 2) := by decide +kernel
theorem dX12_fromList_75 : decode cX12_fromList 75 = .ok (.iadd, 1) := by decide +kernel
theorem dX12_fromList_76 : decode cX12_fromList 76 = .ok (.iconst 1, 1) := by decide +kernel
theorem dX12_fromList_77 : decode cX12_fromList 77 = .ok (.iadd, 1) := by decide +kernel
theorem dX12_fromList_78 : decode cX12_fromList 78 = .ok (.iaload, 1) := by decide +kernel
theorem dX12_fromList_79 : decode cX12_fromList 79 = .ok (.iastore, 1) := by decide +kernel
theorem dX12_fromList_80 : decode cX12_fromList 80 = .ok (.iinc 4 1, 3) := by decide +kernel
theorem dX12_fromList_83 : decode cX12_fromList 83 = .ok (.goto (-42), 3) := by decide +kernel
theorem dX12_fromList_86 : decode cX12_fromList 86 = .ok (.return_, 1) := by decide +kernel
theorem dX12_sizeAt_0 : decode cX12_sizeAt 0 = .ok (.iload_n 1, 1) := by decide +kernel
theorem dX12_sizeAt_1 : decode cX12_sizeAt 1 = .ok (.istore_n 2, 1) := by decide +kernel
theorem dX12_sizeAt_2 : decode cX12_sizeAt 2 = .ok (.iload_n 2, 1) := by decide +kernel
theorem dX12_sizeAt_3 : decode cX12_sizeAt 3 = .ok (.aload_n 0, 1) := by decide +kernel
theorem dX12_sizeAt_4 : decode cX12_sizeAt 4 = .ok (.getfield 76, 3) := by decide +kernel
theorem dX12_sizeAt_7 : decode cX12_sizeAt 7 = .ok (.if_icmp .ge 19, 3) := by decide +kernel
theorem dX12_sizeAt_10 : decode cX12_sizeAt 10 = .ok (.aload_n 0, 1) := by decide +kernel
theorem dX12_sizeAt_11 : decode cX12_sizeAt 11 = .ok (.getfield 16, 3) := by decide +kernel
theorem dX12_sizeAt_14 : decode cX12_sizeAt 14 = .ok (.iload_n 2, 1) := by decide +kernel
theorem dX12_sizeAt_15 : decode cX12_sizeAt 15 = .ok (.iaload, 1) := by decide +kernel
theorem dX12_sizeAt_16 : decode cX12_sizeAt 16 = .ok (.iconst (-1), 1) := by decide +kernel
theorem dX12_sizeAt_17 : decode cX12_sizeAt 17 = .ok (.if_icmp .ne 9, 3) := by decide +kernel
theorem dX12_sizeAt_20 : decode cX12_sizeAt 20 = .ok (.iinc 2 1, 3) := by decide +kernel
theorem dX12_sizeAt_23 : decode cX12_sizeAt 23 = .ok (.goto (-21), 3) := by decide +kernel
theorem dX12_sizeAt_26 : decode cX12_sizeAt 26 = .ok (.iload_n 2, 1) := by decide +kernel
theorem dX12_sizeAt_27 : decode cX12_sizeAt 27 = .ok (.iload_n 1, 1) := by decide +kernel
theorem dX12_sizeAt_28 : decode cX12_sizeAt 28 = .ok (.isub, 1) := by decide +kernel
theorem dX12_sizeAt_29 : decode cX12_sizeAt 29 = .ok (.ireturn, 1) := by decide +kernel
set_option maxRecDepth 20000 in
theorem ggX12_levels_X12_listOf : GoodIn wsX12_levels wsX12_listOf := by first | exact goodIn_sub (show zy_S _ wsX12_levels from (zy_c (zy_t (zy_l (zy_t (zy_t (zy_t (zy_t (zy_t (zy_t zy_h)))))))) zy_n)) (by decide +kernel) | exact goodIn_r _ [7] (by decide +kernel) (by decide +kernel)
set_option maxRecDepth 20000 in
theorem gX12_levels_X12_listOf : GoodIn wsX12_levels (va_wsS RX12 133 yX12_listOf wsX12_listOf) := by first | exact goodIn_app (goodIn_sub (show zy_S _ wsX12_levels from (zy_c (zy_t (zy_l (zy_t (zy_t (zy_t zy_h))))) (zy_c (zy_t (zy_l (zy_t (zy_t (zy_t (zy_t zy_h)))))) (zy_c (zy_t (zy_l (zy_t (zy_t (zy_t (zy_t (zy_t zy_h))))))) zy_n)))) (by decide +kernel)) ggX12_levels_X12_listOf | exact goodIn_app (goodIn_of _ (by decide +kernel)) ggX12_levels_X12_listOf
set_option maxRecDepth 20000 in
theorem ggX12_levels_X12_sizeAt : GoodIn wsX12_levels wsX12_sizeAt := by first | exact goodIn_sub (show zy_S _ wsX12_levels from (zy_c (zy_t (zy_l (zy_t (zy_t (zy_t (zy_t (zy_t (zy_t (zy_t (zy_t (zy_t (zy_t zy_h)))))))))))) (zy_a (zy_c (zy_t (zy_l (zy_t (zy_t (zy_t (zy_t (zy_t (zy_t (zy_t (zy_t (zy_t (zy_t (zy_t zy_h))))))))))))) (zy_c (zy_t (zy_l (zy_t (zy_t (zy_t (zy_t (zy_t (zy_t (zy_t (zy_t (zy_t (zy_t (zy_t (zy_t zy_h)))))))))))))) zy_n)) (zy_p (fun _ h => (zy_t (zy_r h))))))) (by decide +kernel) | exact goodIn_r _ [11, 12, 13, 22, 23, 24, 25, 26, 27, 28, 29, 30, 31, 32, 33, 34, 35, 36, 37, 38, 39, 40, 41, 42, 43, 44, 45, 46, 47, 48, 49, 50, 51, 52, 53, 54, 55, 56, 57] (by decide +kernel) (by decide +kernel)
set_option maxRecDepth 20000 in
theorem gX12_levels_X12_sizeAt : GoodIn wsX12_levels (wsV RX12 136 RX12 yX12_sizeAt wsX12_sizeAt) := by first | exact goodIn_app (goodIn_sub (show zy_S _ wsX12_levels from (zy_c (zy_t (zy_l (zy_t (zy_t (zy_t (zy_t (zy_t (zy_t (zy_t zy_h))))))))) (zy_c (zy_t (zy_l (zy_t (zy_t (zy_t (zy_t (zy_t (zy_t (zy_t (zy_t zy_h)))))))))) (zy_c (zy_t (zy_l (zy_t (zy_t (zy_t (zy_t (zy_t (zy_t (zy_t (zy_t (zy_t zy_h))))))))))) (zy_c (zy_t (zy_l (zy_t (zy_t (zy_t (zy_t (zy_t zy_h))))))) zy_n))))) (by decide +kernel)) ggX12_levels_X12_sizeAt | exact goodIn_app (goodIn_of _ (by decide +kernel)) ggX12_levels_X12_sizeAt
set_option maxRecDepth 20000 in
theorem ggX12_levels_X12_fromList : GoodIn wsX12_levels wsX12_fromList := by first | exact goodIn_sub (show zy_S _ wsX12_levels from (zy_c (zy_t (zy_l (zy_t (zy_t (zy_t (zy_t (zy_t (zy_t (zy_t (zy_t (zy_t (zy_t (zy_t (zy_t (zy_t (zy_t (zy_t (zy_t zy_h)))))))))))))))))) (zy_a (zy_c (zy_t (zy_l (zy_t (zy_t zy_h)))) (zy_c (zy_t (zy_l zy_h)) (zy_c (zy_t (zy_l (zy_t (zy_t (zy_t zy_h))))) (zy_c (zy_t (zy_l (zy_t (zy_t (zy_t (zy_t zy_h)))))) (zy_c (zy_t (zy_l (zy_t (zy_t (zy_t (zy_t (zy_t zy_h))))))) (zy_c (zy_t (zy_l (zy_t (zy_t (zy_t (zy_t (zy_t (zy_t zy_h)))))))) zy_n)))))) (zy_p (fun _ h => (zy_t (zy_r h))))))) (by decide +kernel) | exact goodIn_r _ [17, 3, 1, 4, 5, 6, 7, 22, 23, 24, 25, 26, 27, 28, 29, 30, 31, 32, 33, 34, 35, 36, 37, 38, 39, 40, 41, 42, 43, 44, 45, 46, 47, 48, 49, 50, 51, 52, 53, 54, 55, 56, 57] (by decide +kernel) (by decide +kernel)
set_option maxRecDepth 20000 in
theorem gX12_levels_X12_fromList : GoodIn wsX12_levels (wsV RX12 139 RX12 yX12_fromList wsX12_fromList) := by first | exact goodIn_app (goodIn_sub (show zy_S _ wsX12_levels from (zy_c (zy_t (zy_l (zy_t (zy_t (zy_t (zy_t (zy_t (zy_t (zy_t (zy_t (zy_t (zy_t (zy_t (zy_t (zy_t zy_h))))))))))))))) (zy_c (zy_t (zy_l (zy_t (zy_t (zy_t (zy_t (zy_t (zy_t (zy_t (zy_t (zy_t (zy_t (zy_t (zy_t (zy_t (zy_t zy_h)))))))))))))))) (zy_c (zy_t (zy_l (zy_t (zy_t (zy_t (zy_t (zy_t (zy_t (zy_t (zy_t (zy_t (zy_t (zy_t (zy_t (zy_t (zy_t (zy_t zy_h))))))))))))))))) (zy_c (zy_t (zy_l (zy_t (zy_t (zy_t (zy_t (zy_t zy_h))))))) zy_n))))) (by decide +kernel)) ggX12_levels_X12_fromList | exact goodIn_app (goodIn_of _ (by decide +kernel)) ggX12_levels_X12_fromList
set_option maxRecDepth 20000 in
theorem ggX12_levels_X12_toList : GoodIn wsX12_levels wsX12_toList := by first | exact goodIn_sub (show zy_S _ wsX12_levels from (zy_c (zy_t (zy_l (zy_t (zy_t (zy_t (zy_t (zy_t (zy_t (zy_t (zy_t (zy_t (zy_t (zy_t (zy_t (zy_t (zy_t (zy_t (zy_t (zy_t (zy_t (zy_t (zy_t zy_h)))))))))))))))))))))) (zy_a (zy_c (zy_t (zy_l zy_h)) (zy_c (zy_t (zy_l (zy_t (zy_t zy_h)))) (zy_c (zy_t (zy_l (zy_t (zy_t (zy_t zy_h))))) (zy_c (zy_t (zy_l (zy_t (zy_t (zy_t (zy_t zy_h)))))) (zy_c (zy_t (zy_l (zy_t (zy_t (zy_t (zy_t (zy_t zy_h))))))) (zy_c (zy_t (zy_l (zy_t (zy_t (zy_t (zy_t (zy_t (zy_t zy_h)))))))) zy_n)))))) (zy_p (fun _ h => (zy_t (zy_r h))))))) (by decide +kernel) | exact goodIn_r _ [21, 1, 3, 4, 5, 6, 7, 22, 23, 24, 25, 26, 27, 28, 29, 30, 31, 32, 33, 34, 35, 36, 37, 38, 39, 40, 41, 42, 43, 44, 45, 46, 47, 48, 49, 50, 51, 52, 53, 54, 55, 56, 57] (by decide +kernel) (by decide +kernel)
set_option maxRecDepth 20000 in
theorem gX12_levels_X12_toList : GoodIn wsX12_levels (wsV RX12 109 RX12 yX12_toList wsX12_toList) := by first | exact goodIn_app (goodIn_sub (show zy_S _ wsX12_levels from (zy_c (zy_t (zy_l (zy_t (zy_t (zy_t (zy_t (zy_t (zy_t (zy_t (zy_t (zy_t (zy_t (zy_t (zy_t (zy_t (zy_t (zy_t (zy_t (zy_t zy_h))))))))))))))))))) (zy_c (zy_t (zy_l (zy_t (zy_t (zy_t (zy_t (zy_t (zy_t (zy_t (zy_t (zy_t (zy_t (zy_t (zy_t (zy_t (zy_t (zy_t (zy_t (zy_t (zy_t zy_h)))))))))))))))))))) (zy_c (zy_t (zy_l (zy_t (zy_t (zy_t (zy_t (zy_t (zy_t (zy_t (zy_t (zy_t (zy_t (zy_t (zy_t (zy_t (zy_t (zy_t (zy_t (zy_t (zy_t (zy_t zy_h))))))))))))))))))))) (zy_c (zy_t (zy_l (zy_t (zy_t (zy_t (zy_t (zy_t zy_h))))))) zy_n))))) (by decide +kernel)) ggX12_levels_X12_toList | exact goodIn_app (goodIn_of _ (by decide +kernel)) ggX12_levels_X12_toList
theorem dX12_levels_0 : decode cX12_levels 0 = .ok (.iload_n 1, 1) := by decide +kernel
theorem dX12_levels_1 : decode cX12_levels 1 = .ok (.invokestatic 133, 3) := by decide +kernel
theorem dX12_levels_4 : decode cX12_levels 4 = .ok (.istore_n 2, 1) := by decide +kernel
theorem dX12_levels_5 : decode cX12_levels 5 = .ok (.iconst (-1), 1) := by decide +kernel
theorem dX12_levels_6 : decode cX12_levels 6 = .ok (.istore_n 3, 1) := by decide +kernel
theorem dX12_levels_7 : decode cX12_levels 7 = .ok (.iconst 0, 1) := by decide +kernel
theorem dX12_levels_8 : decode cX12_levels 8 = .ok (.istore 4, 2) := by decide +kernel
theorem dX12_levels_10 : decode cX12_levels 10 = .ok (.iload 4, 2) := by decide +kernel
theorem dX12_levels_12 : decode cX12_levels 12 = .ok (.aload_n 0, 1) := by decide +kernel
theorem dX12_levels_13 : decode cX12_levels 13 = .ok (.getfield 42, 3) := by decide +kernel
theorem dX12_levels_16 : decode cX12_levels 16 = .ok (.iload_n 2, 1) := by decide +kernel
theorem dX12_levels_17 : decode cX12_levels 17 = .ok (.iaload, 1) := by decide +kernel
theorem dX12_levels_18 : decode cX12_levels 18 = .ok (.if_icmp .ge 58, 3) := by decide +kernel
theorem dX12_levels_21 : decode cX12_levels 21 = .ok (.iload_n 3, 1) := by decide +kernel
theorem dX12_levels_22 : decode cX12_levels 22 = .ok (.ifCond .ge 54, 3) := by decide +kernel
theorem dX12_levels_25 : decode cX12_levels 25 = .ok (.aload_n 0, 1) := by decide +kernel
theorem dX12_levels_26 : decode cX12_levels 26 = .ok (.dup, 1) := by decide +kernel
theorem dX12_levels_27 : decode cX12_levels 27 = .ok (.getfield 91, 3) := by decide +kernel
theorem dX12_levels_30 : decode cX12_levels 30 = .ok (.iconst 1, 1) := by decide +kernel
theorem dX12_levels_31 : decode cX12_levels 31 = .ok (.iadd, 1) := by decide +kernel
theorem dX12_levels_32 : decode cX12_levels 32 = .ok (.putfield 91, 3) := by decide +kernel
theorem dX12_levels_35 : decode cX12_levels 35 = .ok (.aload_n 0, 1) := by decide +kernel
theorem dX12_levels_36 : decode cX12_levels 36 = .ok (.aload_n 0, 1) := by decide +kernel
theorem dX12_levels_37 : decode cX12_levels 37 = .ok (.getfield 39, 3) := by decide +kernel
theorem dX12_levels_40 : decode cX12_levels 40 = .ok (.iload_n 2, 1) := by decide +kernel
theorem dX12_levels_41 : decode cX12_levels 41 = .ok (.sipush 1024, 3) := by decide +kernel
theorem dX12_levels_44 : decode cX12_levels 44 = .ok (.imul, 1) := by decide +kernel
theorem dX12_levels_45 : decode cX12_levels 45 = .ok (.iload 4, 2) := by decide +kernel
theorem dX12_levels_47 : decode cX12_levels 47 = .ok (.iadd, 1) := by decide +kernel
theorem dX12_levels_48 : decode cX12_levels 48 = .ok (.iaload, 1) := by decide +kernel
theorem dX12_levels_49 : decode cX12_levels 49 = .ok (.invokevirtual 136, 3) := by decide +kernel
theorem dX12_levels_52 : decode cX12_levels 52 = .ok (.iload_n 1, 1) := by decide +kernel
theorem dX12_levels_53 : decode cX12_levels 53 = .ok (.if_icmp .lt 17, 3) := by decide +kernel
theorem dX12_levels_56 : decode cX12_levels 56 = .ok (.aload_n 0, 1) := by decide +kernel
theorem dX12_levels_57 : decode cX12_levels 57 = .ok (.getfield 39, 3) := by decide +kernel
theorem dX12_levels_60 : decode cX12_levels 60 = .ok (.iload_n 2, 1) := by decide +kernel
theorem dX12_levels_61 : decode cX12_levels 61 = .ok (.sipush 1024, 3) := by decide +kernel
theorem dX12_levels_64 : decode cX12_levels 64 = .ok (.imul, 1) := by decide +kernel
theorem dX12_levels_65 : decode cX12_levels 65 = .ok (.iload 4, 2) := by decide +kernel
theorem dX12_levels_67 : decode cX12_levels 67 = .ok (.iadd, 1) := by decide +kernel
theorem dX12_levels_68 : decode cX12_levels 68 = .ok (.iaload, 1) := by decide +kernel
theorem dX12_levels_69 : decode cX12_levels 69 = .ok (.istore_n 3, 1) := by decide +kernel
theorem dX12_levels_70 : decode cX12_levels 70 = .ok (.iinc 4 1, 3) := by decide +kernel
theorem dX12_levels_73 : decode cX12_levels 73 = .ok (.goto (-63), 3) := by decide +kernel
theorem dX12_levels_76 : decode cX12_levels 76 = .ok (.iload_n 2, 1) := by decide +kernel
theorem dX12_levels_77 : decode cX12_levels 77 = .ok (.iconst 1, 1) := by decide +kernel
theorem dX12_levels_78 : decode cX12_levels 78 = .ok (.iadd, 1) := by decide +kernel
theorem dX12_levels_79 : decode cX12_levels 79 = .ok (.istore 4, 2) := by decide +kernel
theorem dX12_levels_81 : decode cX12_levels 81 = .ok (.iload 4, 2) := by decide +kernel
theorem dX12_levels_83 : decode cX12_levels 83 = .ok (.bipush 44, 2) := by decide +kernel
theorem dX12_levels_85 : decode cX12_levels 85 = .ok (.if_icmp .ge 48, 3) := by decide +kernel
theorem dX12_levels_88 : decode cX12_levels 88 = .ok (.iload_n 3, 1) := by decide +kernel
theorem dX12_levels_89 : decode cX12_levels 89 = .ok (.ifCond .ge 44, 3) := by decide +kernel
theorem dX12_levels_92 : decode cX12_levels 92 = .ok (.aload_n 0, 1) := by decide +kernel
theorem dX12_levels_93 : decode cX12_levels 93 = .ok (.getfield 42, 3) := by decide +kernel
theorem dX12_levels_96 : decode cX12_levels 96 = .ok (.iload 4, 2) := by decide +kernel
theorem dX12_levels_98 : decode cX12_levels 98 = .ok (.iaload, 1) := by decide +kernel
theorem dX12_levels_99 : decode cX12_levels 99 = .ok (.ifCond .ne 6, 3) := by decide +kernel
theorem dX12_levels_102 : decode cX12_levels 102 = .ok (.goto 25, 3) := by decide +kernel
theorem dX12_levels_105 : decode cX12_levels 105 = .ok (.aload_n 0, 1) := by decide +kernel
theorem dX12_levels_106 : decode cX12_levels 106 = .ok (.dup, 1) := by decide +kernel
theorem dX12_levels_107 : decode cX12_levels 107 = .ok (.getfield 91, 3) := by decide +kernel
theorem dX12_levels_110 : decode cX12_levels 110 = .ok (.iconst 1, 1) := by decide +kernel
theorem dX12_levels_111 : decode cX12_levels 111 = .ok (.iadd, 1) := by decide +kernel
theorem dX12_levels_112 : decode cX12_levels 112 = .ok (.putfield 91, 3) := by decide +kernel
theorem dX12_levels_115 : decode cX12_levels 115 = .ok (.aload_n 0, 1) := by decide +kernel
theorem dX12_levels_116 : decode cX12_levels 116 = .ok (.getfield 39, 3) := by decide +kernel
theorem dX12_levels_119 : decode cX12_levels 119 = .ok (.iload 4, 2) := by decide +kernel
theorem dX12_levels_121 : decode cX12_levels 121 = .ok (.sipush 1024, 3) := by decide +kernel
theorem dX12_levels_124 : decode cX12_levels 124 = .ok (.imul, 1) := by decide +kernel
theorem dX12_levels_125 : decode cX12_levels 125 = .ok (.iaload, 1) := by decide +kernel
theorem dX12_levels_126 : decode cX12_levels 126 = .ok (.istore_n 3, 1) := by decide +kernel
theorem dX12_levels_127 : decode cX12_levels 127 = .ok (.iinc 4 1, 3) := by decide +kernel
theorem dX12_levels_130 : decode cX12_levels 130 = .ok (.goto (-49), 3) := by decide +kernel
theorem dX12_levels_133 : decode cX12_levels 133 = .ok (.iload_n 3, 1) := by decide +kernel
theorem dX12_levels_134 : decode cX12_levels 134 = .ok (.ifCond .ge 5, 3) := by decide +kernel
theorem dX12_levels_137 : decode cX12_levels 137 = .ok (.iconst (-1), 1) := by decide +kernel
theorem dX12_levels_138 : decode cX12_levels 138 = .ok (.ireturn, 1) := by decide +kernel
theorem dX12_levels_139 : decode cX12_levels 139 = .ok (.aload_n 0, 1) := by decide +kernel
theorem dX12_levels_140 : decode cX12_levels 140 = .ok (.iload_n 3, 1) := by decide +kernel
theorem dX12_levels_141 : decode cX12_levels 141 = .ok (.invokevirtual 136, 3) := by decide +kernel
theorem dX12_levels_144 : decode cX12_levels 144 = .ok (.istore 4, 2) := by decide +kernel
theorem dX12_levels_146 : decode cX12_levels 146 = .ok (.aload_n 0, 1) := by decide +kernel
theorem dX12_levels_147 : decode cX12_levels 147 = .ok (.iload_n 3, 1) := by decide +kernel
theorem dX12_levels_148 : decode cX12_levels 148 = .ok (.iload 4, 2) := by decide +kernel
theorem dX12_levels_150 : decode cX12_levels 150 = .ok (.invokevirtual 139, 3) := by decide +kernel
theorem dX12_levels_153 : decode cX12_levels 153 = .ok (.iload 4, 2) := by decide +kernel
theorem dX12_levels_155 : decode cX12_levels 155 = .ok (.iload_n 1, 1) := by decide +kernel
theorem dX12_levels_156 : decode cX12_levels 156 = .ok (.if_icmp .le 14, 3) := by decide +kernel
theorem dX12_levels_159 : decode cX12_levels 159 = .ok (.aload_n 0, 1) := by decide +kernel
theorem dX12_levels_160 : decode cX12_levels 160 = .ok (.iload_n 3, 1) := by decide +kernel
theorem dX12_levels_161 : decode cX12_levels 161 = .ok (.iload_n 1, 1) := by decide +kernel
theorem dX12_levels_162 : decode cX12_levels 162 = .ok (.iadd, 1) := by decide +kernel
theorem dX12_levels_163 : decode cX12_levels 163 = .ok (.iload 4, 2) := by decide +kernel
theorem dX12_levels_165 : decode cX12_levels 165 = .ok (.iload_n 1, 1) := by decide +kernel
theorem dX12_levels_166 : decode cX12_levels 166 = .ok (.isub, 1) := by decide +kernel
theorem dX12_levels_167 : decode cX12_levels 167 = .ok (.invokevirtual 109, 3) := by decide +kernel
theorem dX12_levels_170 : decode cX12_levels 170 = .ok (.iload_n 3, 1) := by decide +kernel
theorem dX12_levels_171 : decode cX12_levels 171 = .ok (.ireturn, 1) := by decide +kernel
set_option maxRecDepth 20000 in
theorem ggX12_joinRuns_X12_sizeAt : GoodIn wsX12_joinRuns wsX12_sizeAt := by first | exact goodIn_sub (show zy_S _ wsX12_joinRuns from (zy_c (zy_t (zy_l (zy_t (zy_t (zy_t (zy_t (zy_t zy_h))))))) (zy_a (zy_c (zy_t (zy_l (zy_t (zy_t (zy_t (zy_t (zy_t (zy_t zy_h)))))))) (zy_c (zy_t (zy_l zy_h)) zy_n)) (zy_p (fun _ h => (zy_t (zy_r h))))))) (by decide +kernel) | exact goodIn_r _ [6, 7, 1, 21, 22, 23, 24, 25, 26, 27, 28, 29, 30, 31, 32, 33, 34, 35, 36, 37, 38, 39, 40, 41, 42, 43, 44, 45, 46, 47, 48, 49, 50, 51, 52, 53, 54, 55, 56] (by decide +kernel) (by decide +kernel)
set_option maxRecDepth 20000 in
theorem gX12_joinRuns_X12_sizeAt : GoodIn wsX12_joinRuns (wsV RX12 136 RX12 yX12_sizeAt wsX12_sizeAt) := by first | exact goodIn_app (goodIn_sub (show zy_S _ wsX12_joinRuns from (zy_c (zy_t (zy_l (zy_t zy_h))) (zy_c (zy_t (zy_l (zy_t (zy_t zy_h)))) (zy_c (zy_t (zy_l (zy_t (zy_t (zy_t zy_h))))) (zy_c (zy_t (zy_l (zy_t (zy_t (zy_t (zy_t zy_h)))))) zy_n))))) (by decide +kernel)) ggX12_joinRuns_X12_sizeAt | exact goodIn_app (goodIn_of _ (by decide +kernel)) ggX12_joinRuns_X12_sizeAt
set_option maxRecDepth 20000 in
theorem ggX12_joinRuns_X12_fromList : GoodIn wsX12_joinRuns wsX12_fromList := by first | exact goodIn_sub (show zy_S _ wsX12_joinRuns from (zy_c (zy_t (zy_l (zy_t (zy_t (zy_t (zy_t (zy_t (zy_t (zy_t (zy_t (zy_t (zy_t zy_h)))))))))))) (zy_a (zy_c (zy_t (zy_l (zy_t (zy_t (zy_t (zy_t (zy_t (zy_t (zy_t (zy_t (zy_t (zy_t (zy_t zy_h))))))))))))) (zy_c (zy_t (zy_l (zy_t (zy_t (zy_t (zy_t (zy_t (zy_t (zy_t (zy_t (zy_t (zy_t (zy_t (zy_t zy_h)))))))))))))) (zy_c (zy_t (zy_l (zy_t (zy_t (zy_t (zy_t (zy_t (zy_t (zy_t (zy_t (zy_t (zy_t (zy_t (zy_t (zy_t zy_h))))))))))))))) (zy_c (zy_t (zy_l (zy_t (zy_t (zy_t (zy_t (zy_t (zy_t (zy_t (zy_t (zy_t (zy_t (zy_t (zy_t (zy_t (zy_t zy_h)))))))))))))))) (zy_c (zy_t (zy_l (zy_t (zy_t (zy_t (zy_t zy_h)))))) (zy_c (zy_t (zy_l (zy_t (zy_t (zy_t (zy_t (zy_t (zy_t (zy_t (zy_t (zy_t (zy_t (zy_t (zy_t (zy_t (zy_t (zy_t zy_h))))))))))))))))) zy_n)))))) (zy_p (fun _ h => (zy_t (zy_r h))))))) (by decide +kernel) | exact goodIn_r _ [11, 12, 13, 14, 15, 5, 16, 21, 22, 23, 24, 25, 26, 27, 28, 29, 30, 31, 32, 33, 34, 35, 36, 37, 38, 39, 40, 41, 42, 43, 44, 45, 46, 47, 48, 49, 50, 51, 52, 53, 54, 55, 56] (by decide +kernel) (by decide +kernel)
set_option maxRecDepth 20000 in
theorem gX12_joinRuns_X12_fromList : GoodIn wsX12_joinRuns (wsV RX12 139 RX12 yX12_fromList wsX12_fromList) := by first | exact goodIn_app (goodIn_sub (show zy_S _ wsX12_joinRuns from (zy_c (zy_t (zy_l (zy_t (zy_t (zy_t (zy_t (zy_t (zy_t (zy_t zy_h))))))))) (zy_c (zy_t (zy_l (zy_t (zy_t (zy_t (zy_t (zy_t (zy_t (zy_t (zy_t zy_h)))))))))) (zy_c (zy_t (zy_l (zy_t (zy_t (zy_t (zy_t (zy_t (zy_t (zy_t (zy_t (zy_t zy_h))))))))))) (zy_c (zy_t (zy_l (zy_t (zy_t (zy_t (zy_t zy_h)))))) zy_n))))) (by decide +kernel)) ggX12_joinRuns_X12_fromList | exact goodIn_app (goodIn_of _ (by decide +kernel)) ggX12_joinRuns_X12_fromList
set_option maxRecDepth 20000 in
theorem ggX12_joinRuns_X12_toList : GoodIn wsX12_joinRuns wsX12_toList := by first | exact goodIn_sub (show zy_S _ wsX12_joinRuns from (zy_c (zy_t (zy_l (zy_t (zy_t (zy_t (zy_t (zy_t (zy_t (zy_t (zy_t (zy_t (zy_t (zy_t (zy_t (zy_t (zy_t (zy_t (zy_t (zy_t (zy_t (zy_t zy_h))))))))))))))))))))) (zy_a (zy_c (zy_t (zy_l (zy_t (zy_t (zy_t (zy_t (zy_t (zy_t (zy_t (zy_t (zy_t (zy_t (zy_t (zy_t zy_h)))))))))))))) (zy_c (zy_t (zy_l (zy_t (zy_t (zy_t (zy_t (zy_t (zy_t (zy_t (zy_t (zy_t (zy_t (zy_t zy_h))))))))))))) (zy_c (zy_t (zy_l (zy_t (zy_t (zy_t (zy_t (zy_t (zy_t (zy_t (zy_t (zy_t (zy_t (zy_t (zy_t (zy_t zy_h))))))))))))))) (zy_c (zy_t (zy_l (zy_t (zy_t (zy_t (zy_t (zy_t (zy_t (zy_t (zy_t (zy_t (zy_t (zy_t (zy_t (zy_t (zy_t zy_h)))))))))))))))) (zy_c (zy_t (zy_l (zy_t (zy_t (zy_t (zy_t zy_h)))))) (zy_c (zy_t (zy_l (zy_t (zy_t (zy_t (zy_t (zy_t (zy_t (zy_t (zy_t (zy_t (zy_t (zy_t (zy_t (zy_t (zy_t (zy_t zy_h))))))))))))))))) zy_n)))))) (zy_p (fun _ h => (zy_t (zy_r h))))))) (by decide +kernel) | exact goodIn_r _ [20, 13, 12, 14, 15, 5, 16, 21, 22, 23, 24, 25, 26, 27, 28, 29, 30, 31, 32, 33, 34, 35, 36, 37, 38, 39, 40, 41, 42, 43, 44, 45, 46, 47, 48, 49, 50, 51, 52, 53, 54, 55, 56] (by decide +kernel) (by decide +kernel)
set_option maxRecDepth 20000 in
theorem gX12_joinRuns_X12_toList : GoodIn wsX12_joinRuns (wsV RX12 109 RX12 yX12_toList wsX12_toList) := by first | exact goodIn_app (goodIn_sub (show zy_S _ wsX12_joinRuns from (zy_c (zy_t (zy_l (zy_t (zy_t (zy_t (zy_t (zy_t (zy_t (zy_t (zy_t (zy_t (zy_t (zy_t (zy_t (zy_t (zy_t (zy_t (zy_t zy_h)))))))))))))))))) (zy_c (zy_t (zy_l (zy_t (zy_t (zy_t (zy_t (zy_t (zy_t (zy_t (zy_t (zy_t (zy_t (zy_t (zy_t (zy_t (zy_t (zy_t (zy_t (zy_t zy_h))))))))))))))))))) (zy_c (zy_t (zy_l (zy_t (zy_t (zy_t (zy_t (zy_t (zy_t (zy_t (zy_t (zy_t (zy_t (zy_t (zy_t (zy_t (zy_t (zy_t (zy_t (zy_t (zy_t zy_h)))))))))))))))))))) (zy_c (zy_t (zy_l (zy_t (zy_t (zy_t (zy_t zy_h)))))) zy_n))))) (by decide +kernel)) ggX12_joinRuns_X12_toList | exact goodIn_app (goodIn_of _ (by decide +kernel)) ggX12_joinRuns_X12_toList
theorem dX12_joinRuns_0 : decode cX12_joinRuns 0 = .ok (.iload_n 1, 1) := by decide +kernel
theorem dX12_joinRuns_1 : decode cX12_joinRuns 1 = .ok (.istore_n 3, 1) := by decide +kernel
theorem dX12_joinRuns_2 : decode cX12_joinRuns 2 = .ok (.iload_n 3, 1) := by decide +kernel
theorem dX12_joinRuns_3 : decode cX12_joinRuns 3 = .ok (.ifCond .le 21, 3) := by decide +kernel
theorem dX12_joinRuns_6 : decode cX12_joinRuns 6 = .ok (.aload_n 0, 1) := by decide +kernel
theorem dX12_joinRuns_7 : decode cX12_joinRuns 7 = .ok (.getfield 16, 3) := by decide +kernel
theorem dX12_joinRuns_10 : decode cX12_joinRuns 10 = .ok (.iload_n 3, 1) := by decide +kernel
theorem dX12_joinRuns_11 : decode cX12_joinRuns 11 = .ok (.iconst 1, 1) := by decide +kernel
theorem dX12_joinRuns_12 : decode cX12_joinRuns 12 = .ok (.isub, 1) := by decide +kernel
theorem dX12_joinRuns_13 : decode cX12_joinRuns 13 = .ok (.iaload, 1) := by decide +kernel
theorem dX12_joinRuns_14 : decode cX12_joinRuns 14 = .ok (.iconst (-1), 1) := by decide +kernel
theorem dX12_joinRuns_15 : decode cX12_joinRuns 15 = .ok (.if_icmp .ne 9, 3) := by decide +kernel
theorem dX12_joinRuns_18 : decode cX12_joinRuns 18 = .ok (.iinc 3 (-1), 3) := by decide +kernel
theorem dX12_joinRuns_21 : decode cX12_joinRuns 21 = .ok (.goto (-19), 3) := by decide +kernel
theorem dX12_joinRuns_24 : decode cX12_joinRuns 24 = .ok (.aload_n 0, 1) := by decide +kernel
theorem dX12_joinRuns_25 : decode cX12_joinRuns 25 = .ok (.iload_n 1, 1) := by decide +kernel
theorem dX12_joinRuns_26 : decode cX12_joinRuns 26 = .ok (.iload_n 2, 1) := by decide +kernel
theorem dX12_joinRuns_27 : decode cX12_joinRuns 27 = .ok (.iadd, 1) := by decide +kernel
theorem dX12_joinRuns_28 : decode cX12_joinRuns 28 = .ok (.invokevirtual 136, 3) := by decide +kernel
theorem dX12_joinRuns_31 : decode cX12_joinRuns 31 = .ok (.istore 4, 2) := by decide +kernel
theorem dX12_joinRuns_33 : decode cX12_joinRuns 33 = .ok (.iload_n 3, 1) := by decide +kernel
theorem dX12_joinRuns_34 : decode cX12_joinRuns 34 = .ok (.iload_n 1, 1) := by decide +kernel
theorem dX12_joinRuns_35 : decode cX12_joinRuns 35 = .ok (.if_icmp .ge 11, 3) := by decide +kernel
theorem dX12_joinRuns_38 : decode cX12_joinRuns 38 = .ok (.aload_n 0, 1) := by decide +kernel
theorem dX12_joinRuns_39 : decode cX12_joinRuns 39 = .ok (.iload_n 3, 1) := by decide +kernel
theorem dX12_joinRuns_40 : decode cX12_joinRuns 40 = .ok (.iload_n 1, 1) := by decide +kernel
theorem dX12_joinRuns_41 : decode cX12_joinRuns 41 = .ok (.iload_n 3, 1) := by decide +kernel
theorem dX12_joinRuns_42 : decode cX12_joinRuns 42 = .ok (.isub, 1) := by decide +kernel
theorem dX12_joinRuns_43 : decode cX12_joinRuns 43 = .ok (.invokevirtual 139, 3) := by decide +kernel
theorem dX12_joinRuns_46 : decode cX12_joinRuns 46 = .ok (.iload 4, 2) := by decide +kernel
theorem dX12_joinRuns_48 : decode cX12_joinRuns 48 = .ok (.ifCond .le 12, 3) := by decide +kernel
theorem dX12_joinRuns_51 : decode cX12_joinRuns 51 = .ok (.aload_n 0, 1) := by decide +kernel
theorem dX12_joinRuns_52 : decode cX12_joinRuns 52 = .ok (.iload_n 1, 1) := by decide +kernel
theorem dX12_joinRuns_53 : decode cX12_joinRuns 53 = .ok (.iload_n 2, 1) := by decide +kernel
theorem dX12_joinRuns_54 : decode cX12_joinRuns 54 = .ok (.iadd, 1) := by decide +kernel
theorem dX12_joinRuns_55 : decode cX12_joinRuns 55 = .ok (.iload 4, 2) := by decide +kernel
theorem dX12_joinRuns_57 : decode cX12_joinRuns 57 = .ok (.invokevirtual 139, 3) := by decide +kernel
theorem dX12_joinRuns_60 : decode cX12_joinRuns 60 = .ok (.aload_n 0, 1) := by decide +kernel
theorem dX12_joinRuns_61 : decode cX12_joinRuns 61 = .ok (.iload_n 3, 1) := by decide +kernel
theorem dX12_joinRuns_62 : decode cX12_joinRuns 62 = .ok (.iload_n 1, 1) := by decide +kernel
theorem dX12_joinRuns_63 : decode cX12_joinRuns 63 = .ok (.iload_n 3, 1) := by decide +kernel
theorem dX12_joinRuns_64 : decode cX12_joinRuns 64 = .ok (.isub, 1) := by decide +kernel
theorem dX12_joinRuns_65 : decode cX12_joinRuns 65 = .ok (.iload_n 2, 1) := by decide +kernel
theorem dX12_joinRuns_66 : decode cX12_joinRuns 66 = .ok (.iadd, 1) := by decide +kernel
theorem dX12_joinRuns_67 : decode cX12_joinRuns 67 = .ok (.iload 4, 2) := by decide +kernel
theorem dX12_joinRuns_69 : decode cX12_joinRuns 69 = .ok (.iadd, 1) := by decide +kernel
theorem dX12_joinRuns_70 : decode cX12_joinRuns 70 = .ok (.invokevirtual 109, 3) := by decide +kernel
theorem dX12_joinRuns_73 : decode cX12_joinRuns 73 = .ok (.return_, 1) := by decide +kernel
theorem dX12_emptyQuick_0 : decode cX12_emptyQuick 0 = .ok (.iconst 1, 1) := by decide +kernel
theorem dX12_emptyQuick_1 : decode cX12_emptyQuick 1 = .ok (.istore_n 1, 1) := by decide +kernel
theorem dX12_emptyQuick_2 : decode cX12_emptyQuick 2 = .ok (.iload_n 1, 1) := by decide +kernel
theorem dX12_emptyQuick_3 : decode cX12_emptyQuick 3 = .ok (.aload_n 0, 1) := by decide +kernel
theorem dX12_emptyQuick_4 : decode cX12_emptyQuick 4 = .ok (.getfield 58, 3) := by decide +kernel
theorem dX12_emptyQuick_7 : decode cX12_emptyQuick 7 = .ok (.arraylength, 1) := by decide +kernel
theorem dX12_emptyQuick_8 : decode cX12_emptyQuick 8 = .ok (.if_icmp .ge 67, 3) := by decide +kernel
theorem dX12_emptyQuick_11 : decode cX12_emptyQuick 11 = .ok (.iconst 0, 1) := by decide +kernel
theorem dX12_emptyQuick_12 : decode cX12_emptyQuick 12 = .ok (.istore_n 2, 1) := by decide +kernel
theorem dX12_emptyQuick_13 : decode cX12_emptyQuick 13 = .ok (.iload_n 2, 1) := by decide +kernel
theorem dX12_emptyQuick_14 : decode cX12_emptyQuick 14 = .ok (.aload_n 0, 1) := by decide +kernel
theorem dX12_emptyQuick_15 : decode cX12_emptyQuick 15 = .ok (.getfield 58, 3) := by decide +kernel
theorem dX12_emptyQuick_18 : decode cX12_emptyQuick 18 = .ok (.iload_n 1, 1) := by decide +kernel
theorem dX12_emptyQuick_19 : decode cX12_emptyQuick 19 = .ok (.iaload, 1) := by decide +kernel
theorem dX12_emptyQuick_20 : decode cX12_emptyQuick 20 = .ok (.if_icmp .ge 42, 3) := by decide +kernel
theorem dX12_emptyQuick_23 : decode cX12_emptyQuick 23 = .ok (.iconst 0, 1) := by decide +kernel
theorem dX12_emptyQuick_24 : decode cX12_emptyQuick 24 = .ok (.istore_n 3, 1) := by decide +kernel
theorem dX12_emptyQuick_25 : decode cX12_emptyQuick 25 = .ok (.iload_n 3, 1) := by decide +kernel
theorem dX12_emptyQuick_26 : decode cX12_emptyQuick 26 = .ok (.iload_n 1, 1) := by decide +kernel
theorem dX12_emptyQuick_27 : decode cX12_emptyQuick 27 = .ok (.if_icmp .ge 29, 3) := by decide +kernel
theorem dX12_emptyQuick_30 : decode cX12_emptyQuick 30 = .ok (.aload_n 0, 1) := by decide +kernel
theorem dX12_emptyQuick_31 : decode cX12_emptyQuick 31 = .ok (.getfield 16, 3) := by decide +kernel
theorem dX12_emptyQuick_34 : decode cX12_emptyQuick 34 = .ok (.aload_n 0, 1) := by decide +kernel
theorem dX12_emptyQuick_35 : decode cX12_emptyQuick 35 = .ok (.getfield 55, 3) := by decide +kernel
theorem dX12_emptyQuick_38 : decode cX12_emptyQuick 38 = .ok (.iload_n 1, 1) := by decide +kernel
theorem dX12_emptyQuick_39 : decode cX12_emptyQuick 39 = .ok (.sipush 1024, 3) := by decide +kernel
theorem dX12_emptyQuick_42 : decode cX12_emptyQuick 42 = .ok (.imul, 1) := by decide +kernel
theorem dX12_emptyQuick_43 : decode cX12_emptyQuick 43 = .ok (.iload_n 2, 1) := by decide +kernel
theorem dX12_emptyQuick_44 : decode cX12_emptyQuick 44 = .ok (.iadd, 1) := by decide +kernel
theorem dX12_emptyQuick_45 : decode cX12_emptyQuick 45 = .ok (.iaload, 1) := by decide +kernel
theorem dX12_emptyQuick_46 : decode cX12_emptyQuick 46 = .ok (.iload_n 3, 1) := by decide +kernel
theorem dX12_emptyQuick_47 : decode cX12_emptyQuick 47 = .ok (.iadd, 1) := by decide +kernel
theorem dX12_emptyQuick_48 : decode cX12_emptyQuick 48 = .ok (.iconst (-1), 1) := by decide +kernel
theorem dX12_emptyQuick_49 : decode cX12_emptyQuick 49 = .ok (.iastore, 1) := by decide +kernel
theorem dX12_emptyQuick_50 : decode cX12_emptyQuick 50 = .ok (.iinc 3 1, 3) := by decide +kernel
theorem dX12_emptyQuick_53 : decode cX12_emptyQuick 53 = .ok (.goto (-28), 3) := by decide +kernel
theorem dX12_emptyQuick_56 : decode cX12_emptyQuick 56 = .ok (.iinc 2 1, 3) := by decide +kernel
theorem dX12_emptyQuick_59 : decode cX12_emptyQuick 59 = .ok (.goto (-46), 3) := by decide +kernel
theorem dX12_emptyQuick_62 : decode cX12_emptyQuick 62 = .ok (.aload_n 0, 1) := by decide +kernel
theorem dX12_emptyQuick_63 : decode cX12_emptyQuick 63 = .ok (.getfield 58, 3) := by decide +kernel
theorem dX12_emptyQuick_66 : decode cX12_emptyQuick 66 = .ok (.iload_n 1, 1) := by decide +kernel
theorem dX12_emptyQuick_67 : decode cX12_emptyQuick 67 = .ok (.iconst 0, 1) := by decide +kernel
theorem dX12_emptyQuick_68 : decode cX12_emptyQuick 68 = .ok (.iastore, 1) := by decide +kernel
theorem dX12_emptyQuick_69 : decode cX12_emptyQuick 69 = .ok (.iinc 1 1, 3) := by decide +kernel
theorem dX12_emptyQuick_72 : decode cX12_emptyQuick 72 = .ok (.goto (-70), 3) := by decide +kernel
theorem dX12_emptyQuick_75 : decode cX12_emptyQuick 75 = .ok (.return_, 1) := by decide +kernel
set_option maxRecDepth 20000 in
theorem ggX12_quick_X12_firstRun : GoodIn wsX12_quick wsX12_firstRun := by first | exact goodIn_sub (show zy_S _ wsX12_quick from (zy_c (zy_t (zy_l (zy_t (zy_t (zy_t (zy_t (zy_t (zy_t (zy_t zy_h))))))))) (zy_a (zy_c (zy_t (zy_l (zy_t (zy_t (zy_t (zy_t (zy_t (zy_t (zy_t (zy_t zy_h)))))))))) (zy_c (zy_t (zy_l (zy_t (zy_t (zy_t (zy_t (zy_t (zy_t (zy_t (zy_t (zy_t zy_h))))))))))) (zy_c (zy_t (zy_l (zy_t (zy_t (zy_t (zy_t (zy_t (zy_t (zy_t (zy_t (zy_t (zy_t zy_h)))))))))))) (zy_c (zy_t (zy_l (zy_t (zy_t (zy_t (zy_t (zy_t (zy_t (zy_t (zy_t (zy_t (zy_t (zy_t zy_h))))))))))))) (zy_c (zy_t (zy_l (zy_t (zy_t (zy_t (zy_t (zy_t (zy_t (zy_t (zy_t (zy_t (zy_t (zy_t (zy_t zy_h)))))))))))))) (zy_c (zy_t (zy_l (zy_t (zy_t (zy_t (zy_t (zy_t (zy_t zy_h)))))))) (zy_c (zy_t (zy_l (zy_t (zy_t (zy_t (zy_t (zy_t (zy_t (zy_t (zy_t (zy_t (zy_t (zy_t (zy_t (zy_t zy_h))))))))))))))) (zy_c (zy_t (zy_l (zy_t (zy_t zy_h)))) (zy_c (zy_t (zy_l (zy_t (zy_t (zy_t (zy_t (zy_t (zy_t (zy_t (zy_t (zy_t (zy_t (zy_t (zy_t (zy_t (zy_t zy_h)))))))))))))))) zy_n))))))))) (zy_p (fun _ h => (zy_t (zy_r h))))))) (by decide +kernel) | exact goodIn_r _ [8, 9, 10, 11, 12, 13, 7, 14, 3, 15, 20, 21, 22, 23, 24, 25, 26, 27, 28, 29, 30, 31, 32, 33, 34, 35, 36, 37, 38, 39, 40, 41, 42, 43, 44, 45, 46, 47, 48, 49, 50, 51, 52, 53, 54, 55] (by decide +kernel) (by decide +kernel)
set_option maxRecDepth 20000 in
theorem gX12_quick_X12_firstRun : GoodIn wsX12_quick (wsV RX12 142 RX12 yX12_firstRun wsX12_firstRun) := by first | exact goodIn_app (goodIn_sub (show zy_S _ wsX12_quick from (zy_c (zy_t (zy_l (zy_t (zy_t (zy_t zy_h))))) (zy_c (zy_t (zy_l (zy_t (zy_t (zy_t (zy_t zy_h)))))) (zy_c (zy_t (zy_l (zy_t (zy_t (zy_t (zy_t (zy_t zy_h))))))) (zy_c (zy_t (zy_l (zy_t (zy_t (zy_t (zy_t (zy_t (zy_t zy_h)))))))) zy_n))))) (by decide +kernel)) ggX12_quick_X12_firstRun | exact goodIn_app (goodIn_of _ (by decide +kernel)) ggX12_quick_X12_firstRun
set_option maxRecDepth 20000 in
theorem ggX12_quick_X12_emptyQuick : GoodIn wsX12_quick wsX12_emptyQuick := by first | exact goodIn_sub (show zy_S _ wsX12_quick from (zy_c (zy_t (zy_l (zy_t (zy_t (zy_t (zy_t (zy_t (zy_t (zy_t (zy_t (zy_t (zy_t (zy_t (zy_t (zy_t (zy_t (zy_t (zy_t (zy_t (zy_t zy_h)))))))))))))))))))) (zy_a (zy_c (zy_t (zy_l zy_h)) (zy_c (zy_t (zy_l (zy_t (zy_t (zy_t (zy_t (zy_t (zy_t (zy_t (zy_t (zy_t (zy_t (zy_t (zy_t (zy_t (zy_t zy_h)))))))))))))))) (zy_c (zy_t (zy_l (zy_t zy_h))) zy_n))) (zy_p (fun _ h => (zy_t (zy_r h))))))) (by decide +kernel) | exact goodIn_r _ [19, 1, 15, 2, 20, 21, 22, 23, 24, 25, 26, 27, 28, 29, 30, 31, 32, 33, 34, 35, 36, 37, 38, 39, 40, 41, 42, 43, 44, 45, 46, 47, 48, 49, 50, 51, 52, 53, 54, 55] (by decide +kernel) (by decide +kernel)
set_option maxRecDepth 20000 in
theorem gX12_quick_X12_emptyQuick : GoodIn wsX12_quick (wsV RX12 146 RX12 yX12_emptyQuick wsX12_emptyQuick) := by first | exact goodIn_app (goodIn_sub (show zy_S _ wsX12_quick from (zy_c (zy_t (zy_l (zy_t (zy_t (zy_t (zy_t (zy_t (zy_t (zy_t (zy_t (zy_t (zy_t (zy_t (zy_t (zy_t (zy_t (zy_t zy_h))))))))))))))))) (zy_c (zy_t (zy_l (zy_t (zy_t (zy_t (zy_t (zy_t (zy_t (zy_t (zy_t (zy_t (zy_t (zy_t (zy_t (zy_t (zy_t (zy_t (zy_t zy_h)))))))))))))))))) (zy_c (zy_t (zy_l (zy_t (zy_t (zy_t (zy_t (zy_t (zy_t (zy_t (zy_t (zy_t (zy_t (zy_t (zy_t (zy_t (zy_t (zy_t (zy_t (zy_t zy_h))))))))))))))))))) (zy_c (zy_t (zy_l (zy_t (zy_t (zy_t (zy_t (zy_t (zy_t zy_h)))))))) zy_n))))) (by decide +kernel)) ggX12_quick_X12_emptyQuick | exact goodIn_app (goodIn_of _ (by decide +kernel)) ggX12_quick_X12_emptyQuick
theorem dX12_quick_0 : decode cX12_quick 0 = .ok (.iload_n 1, 1) := by decide +kernel
theorem dX12_quick_1 : decode cX12_quick 1 = .ok (.bipush 8, 2) := by decide +kernel
theorem dX12_quick_3 : decode cX12_quick 3 = .ok (.if_icmp .gt 79, 3) := by decide +kernel
theorem dX12_quick_6 : decode cX12_quick 6 = .ok (.aload_n 0, 1) := by decide +kernel
theorem dX12_quick_7 : decode cX12_quick 7 = .ok (.getfield 58, 3) := by decide +kernel
theorem dX12_quick_10 : decode cX12_quick 10 = .ok (.iload_n 1, 1) := by decide +kernel
theorem dX12_quick_11 : decode cX12_quick 11 = .ok (.iaload, 1) := by decide +kernel
theorem dX12_quick_12 : decode cX12_quick 12 = .ok (.ifCond .le 70, 3) := by decide +kernel
theorem dX12_quick_15 : decode cX12_quick 15 = .ok (.aload_n 0, 1) := by decide +kernel
theorem dX12_quick_16 : decode cX12_quick 16 = .ok (.getfield 55, 3) := by decide +kernel
theorem dX12_quick_19 : decode cX12_quick 19 = .ok (.iload_n 1, 1) := by decide +kernel
theorem dX12_quick_20 : decode cX12_quick 20 = .ok (.sipush 1024, 3) := by decide +kernel
theorem dX12_quick_23 : decode cX12_quick 23 = .ok (.imul, 1) := by decide +kernel
theorem dX12_quick_24 : decode cX12_quick 24 = .ok (.iaload, 1) := by decide +kernel
theorem dX12_quick_25 : decode cX12_quick 25 = .ok (.istore_n 2, 1) := by decide +kernel
theorem dX12_quick_26 : decode cX12_quick 26 = .ok (.aload_n 0, 1) := by decide +kernel
theorem dX12_quick_27 : decode cX12_quick 27 = .ok (.getfield 58, 3) := by decide +kernel
theorem dX12_quick_30 : decode cX12_quick 30 = .ok (.iload_n 1, 1) := by decide +kernel
theorem dX12_quick_31 : decode cX12_quick 31 = .ok (.dup2, 1) := by decide +kernel
theorem dX12_quick_32 : decode cX12_quick 32 = .ok (.iaload, 1) := by decide +kernel
theorem dX12_quick_33 : decode cX12_quick 33 = .ok (.iconst 1, 1) := by decide +kernel
theorem dX12_quick_34 : decode cX12_quick 34 = .ok (.isub, 1) := by decide +kernel
theorem dX12_quick_35 : decode cX12_quick 35 = .ok (.iastore, 1) := by decide +kernel
theorem dX12_quick_36 : decode cX12_quick 36 = .ok (.iconst 0, 1) := by decide +kernel
theorem dX12_quick_37 : decode cX12_quick 37 = .ok (.istore_n 3, 1) := by decide +kernel
theorem dX12_quick_38 : decode cX12_quick 38 = .ok (.iload_n 3, 1) := by decide +kernel
theorem dX12_quick_39 : decode cX12_quick 39 = .ok (.aload_n 0, 1) := by decide +kernel
theorem dX12_quick_40 : decode cX12_quick 40 = .ok (.getfield 58, 3) := by decide +kernel
theorem dX12_quick_43 : decode cX12_quick 43 = .ok (.iload_n 1, 1) := by decide +kernel
theorem dX12_quick_44 : decode cX12_quick 44 = .ok (.iaload, 1) := by decide +kernel
theorem dX12_quick_45 : decode cX12_quick 45 = .ok (.if_icmp .ge 35, 3) := by decide +kernel
theorem dX12_quick_48 : decode cX12_quick 48 = .ok (.aload_n 0, 1) := by decide +kernel
theorem dX12_quick_49 : decode cX12_quick 49 = .ok (.getfield 55, 3) := by decide +kernel
theorem dX12_quick_52 : decode cX12_quick 52 = .ok (.iload_n 1, 1) := by decide +kernel
theorem dX12_quick_53 : decode cX12_quick 53 = .ok (.sipush 1024, 3) := by decide +kernel
theorem dX12_quick_56 : decode cX12_quick 56 = .ok (.imul, 1) := by decide +kernel
theorem dX12_quick_57 : decode cX12_quick 57 = .ok (.iload_n 3, 1) := by decide +kernel
theorem dX12_quick_58 : decode cX12_quick 58 = .ok (.iadd, 1) := by decide +kernel
theorem dX12_quick_59 : decode cX12_quick 59 = .ok (.aload_n 0, 1) := by decide +kernel
theorem dX12_quick_60 : decode cX12_quick 60 = .ok (.getfield 55, 3) := by decide +kernel
theorem dX12_quick_63 : decode cX12_quick 63 = .ok (.iload_n 1, 1) := by decide +kernel
theorem dX12_quick_64 : decode cX12_quick 64 = .ok (.sipush 1024, 3) := by decide +kernel
theorem dX12_quick_67 : decode cX12_quick 67 = .ok (.imul, 1) := by decide +kernel
theorem dX12_quick_68 : decode cX12_quick 68 = .ok (.iload_n 3, 1) := by decide +kernel
theorem dX12_quick_69 : decode cX12_quick 69 = .ok (.iadd, 1) := by decide +kernel
theorem dX12_quick_70 : decode cX12_quick 70 = .ok (.iconst 1, 1) := by decide +kernel
theorem dX12_quick_71 : decode cX12_quick 71 = .ok (.iadd, 1) := by decide +kernel
theorem dX12_quick_72 : decode cX12_quick 72 = .ok (.iaload, 1) := by decide +kernel
theorem dX12_quick_73 : decode cX12_quick 73 = .ok (.iastore, 1) := by decide +kernel
theorem dX12_quick_74 : decode cX12_quick 74 = .ok (.iinc 3 1, 3) := by decide +kernel
theorem dX12_quick_77 : decode cX12_quick 77 = .ok (.goto (-39), 3) := by decide +kernel
theorem dX12_quick_80 : decode cX12_quick 80 = .ok (.iload_n 2, 1) := by decide +kernel
theorem dX12_quick_81 : decode cX12_quick 81 = .ok (.ireturn, 1) := by decide +kernel
theorem dX12_quick_82 : decode cX12_quick 82 = .ok (.aload_n 0, 1) := by decide +kernel
theorem dX12_quick_83 : decode cX12_quick 83 = .ok (.iload_n 1, 1) := by decide +kernel
theorem dX12_quick_84 : decode cX12_quick 84 = .ok (.iconst 0, 1) := by decide +kernel
theorem dX12_quick_85 : decode cX12_quick 85 = .ok (.aload_n 0, 1) := by decide +kernel
theorem dX12_quick_86 : decode cX12_quick 86 = .ok (.getfield 76, 3) := by decide +kernel
theorem dX12_quick_89 : decode cX12_quick 89 = .ok (.invokevirtual 142, 3) := by decide +kernel
theorem dX12_quick_92 : decode cX12_quick 92 = .ok (.istore_n 2, 1) := by decide +kernel
theorem dX12_quick_93 : decode cX12_quick 93 = .ok (.iload_n 2, 1) := by decide +kernel
theorem dX12_quick_94 : decode cX12_quick 94 = .ok (.ifCond .lt 5, 3) := by decide +kernel
theorem dX12_quick_97 : decode cX12_quick 97 = .ok (.iload_n 2, 1) := by decide +kernel
theorem dX12_quick_98 : decode cX12_quick 98 = .ok (.ireturn, 1) := by decide +kernel
theorem dX12_quick_99 : decode cX12_quick 99 = .ok (.aload_n 0, 1) := by decide +kernel
theorem dX12_quick_100 : decode cX12_quick 100 = .ok (.invokevirtual 146, 3) := by decide +kernel
theorem dX12_quick_103 : decode cX12_quick 103 = .ok (.aload_n 0, 1) := by decide +kernel
theorem dX12_quick_104 : decode cX12_quick 104 = .ok (.iload_n 1, 1) := by decide +kernel
theorem dX12_quick_105 : decode cX12_quick 105 = .ok (.iconst 0, 1) := by decide +kernel
theorem dX12_quick_106 : decode cX12_quick 106 = .ok (.aload_n 0, 1) := by decide +kernel
theorem dX12_quick_107 : decode cX12_quick 107 = .ok (.getfield 76, 3) := by decide +kernel
theorem dX12_quick_110 : decode cX12_quick 110 = .ok (.invokevirtual 142, 3) := by decide +kernel
theorem dX12_quick_113 : decode cX12_quick 113 = .ok (.ireturn, 1) := by decide +kernel
set_option maxRecDepth 20000 in
theorem ggX12_find_X12_firstRun : GoodIn wsX12_find wsX12_firstRun := by first | exact goodIn_sub (show zy_S _ wsX12_find from (zy_c (zy_t (zy_l (zy_l (zy_t (zy_t (zy_t (zy_t (zy_t (zy_t (zy_t (zy_t (zy_t (zy_t zy_h))))))))))))) (zy_a (zy_c (zy_t (zy_l (zy_l (zy_t (zy_t (zy_t (zy_t zy_h))))))) (zy_c (zy_t (zy_l (zy_l (zy_t (zy_t (zy_t (zy_t (zy_t (zy_t (zy_t (zy_t (zy_t (zy_t (zy_t zy_h)))))))))))))) (zy_c (zy_t (zy_l (zy_l (zy_t (zy_t (zy_t (zy_t (zy_t (zy_t (zy_t (zy_t (zy_t (zy_t (zy_t (zy_t zy_h))))))))))))))) (zy_c (zy_t (zy_l (zy_l (zy_t (zy_t (zy_t (zy_t (zy_t (zy_t (zy_t (zy_t (zy_t (zy_t (zy_t (zy_t (zy_t zy_h)))))))))))))))) (zy_c (zy_t (zy_l (zy_l (zy_t (zy_t (zy_t (zy_t (zy_t (zy_t (zy_t (zy_t (zy_t (zy_t (zy_t (zy_t (zy_t (zy_t zy_h))))))))))))))))) (zy_c (zy_t (zy_l (zy_l (zy_t (zy_t (zy_t (zy_t (zy_t (zy_t (zy_t (zy_t (zy_t zy_h)))))))))))) (zy_c (zy_t (zy_l (zy_l (zy_t (zy_t (zy_t (zy_t (zy_t (zy_t (zy_t (zy_t (zy_t (zy_t (zy_t (zy_t (zy_t (zy_t (zy_t zy_h)))))))))))))))))) (zy_c (zy_t (zy_l (zy_l (zy_t (zy_t zy_h))))) (zy_c (zy_t (zy_l (zy_l (zy_t (zy_t (zy_t (zy_t (zy_t (zy_t (zy_t (zy_t (zy_t (zy_t (zy_t (zy_t (zy_t (zy_t (zy_t (zy_t zy_h))))))))))))))))))) zy_n))))))))) (zy_p (fun _ h => (zy_t (zy_r h))))))) (by decide +kernel) | exact goodIn_r _ [11, 5, 12, 13, 14, 15, 10, 16, 3, 17, 83, 84, 85, 86, 87, 88, 89, 90, 91, 92, 93, 94, 95, 96, 97, 98, 99, 100, 101, 102, 103, 104, 105, 106, 107, 108, 109, 110, 111, 112, 113, 114, 115, 116, 117, 118] (by decide +kernel) (by decide +kernel)
set_option maxRecDepth 20000 in
theorem gX12_find_X12_firstRun : GoodIn wsX12_find (wsV RX12 142 RX12 yX12_firstRun wsX12_firstRun) := by first | exact goodIn_app (goodIn_sub (show zy_S _ wsX12_find from (zy_c (zy_t (zy_l (zy_l (zy_t (zy_t (zy_t (zy_t (zy_t (zy_t zy_h))))))))) (zy_c (zy_t (zy_l (zy_l (zy_t (zy_t (zy_t (zy_t (zy_t (zy_t (zy_t zy_h)))))))))) (zy_c (zy_t (zy_l (zy_l (zy_t (zy_t (zy_t (zy_t (zy_t (zy_t (zy_t (zy_t zy_h))))))))))) (zy_c (zy_t (zy_l (zy_l (zy_t (zy_t (zy_t (zy_t (zy_t (zy_t (zy_t (zy_t (zy_t zy_h)))))))))))) zy_n))))) (by decide +kernel)) ggX12_find_X12_firstRun | exact goodIn_app (goodIn_of _ (by decide +kernel)) ggX12_find_X12_firstRun
set_option maxRecDepth 20000 in
theorem ggX12_find_X12_bestRun : GoodIn wsX12_find wsX12_bestRun := by first | exact goodIn_sub (show zy_S _ wsX12_find from (zy_c (zy_t (zy_l (zy_l (zy_t (zy_t (zy_t (zy_t (zy_t (zy_t (zy_t (zy_t (zy_t (zy_t (zy_t (zy_t (zy_t (zy_t (zy_t (zy_t (zy_t (zy_t (zy_t (zy_t zy_h))))))))))))))))))))))) (zy_a (zy_c (zy_t (zy_l (zy_l (zy_t (zy_t (zy_t (zy_t zy_h))))))) (zy_c (zy_t (zy_l (zy_l (zy_t (zy_t (zy_t (zy_t (zy_t (zy_t (zy_t (zy_t (zy_t (zy_t (zy_t zy_h)))))))))))))) (zy_c (zy_t (zy_l (zy_l (zy_t zy_h)))) (zy_c (zy_t (zy_l (zy_l (zy_t (zy_t (zy_t (zy_t (zy_t (zy_t (zy_t (zy_t (zy_t (zy_t (zy_t (zy_t zy_h))))))))))))))) (zy_c (zy_t (zy_l (zy_l (zy_t (zy_t (zy_t (zy_t (zy_t (zy_t (zy_t (zy_t (zy_t (zy_t (zy_t (zy_t (zy_t zy_h)))))))))))))))) (zy_c (zy_t (zy_l (zy_l (zy_t (zy_t (zy_t (zy_t (zy_t (zy_t (zy_t (zy_t (zy_t (zy_t (zy_t (zy_t (zy_t (zy_t zy_h))))))))))))))))) (zy_c (zy_t (zy_l (zy_l (zy_t (zy_t (zy_t (zy_t (zy_t (zy_t (zy_t (zy_t (zy_t zy_h)))))))))))) (zy_c (zy_t (zy_l (zy_l (zy_t (zy_t (zy_t (zy_t (zy_t (zy_t (zy_t (zy_t (zy_t (zy_t (zy_t (zy_t (zy_t (zy_t (zy_t zy_h)))))))))))))))))) (zy_c (zy_t (zy_l (zy_l (zy_t (zy_t zy_h))))) (zy_c (zy_t (zy_l (zy_l (zy_t (zy_t (zy_t (zy_t (zy_t (zy_t (zy_t (zy_t (zy_t (zy_t (zy_t (zy_t (zy_t (zy_t (zy_t (zy_t zy_h))))))))))))))))))) zy_n)))))))))) (zy_p (fun _ h => (zy_t (zy_r h))))))) (by decide +kernel) | exact goodIn_r _ [21, 5, 12, 2, 13, 14, 15, 10, 16, 3, 17, 83, 84, 85, 86, 87, 88, 89, 90, 91, 92, 93, 94, 95, 96, 97, 98, 99, 100, 101, 102, 103, 104, 105, 106, 107, 108, 109, 110, 111, 112, 113, 114, 115, 116, 117, 118] (by decide +kernel) (by decide +kernel)
set_option maxRecDepth 20000 in
theorem gX12_find_X12_bestRun : GoodIn wsX12_find (wsV RX12 152 RX12 yX12_bestRun wsX12_bestRun) := by first | exact goodIn_app (goodIn_sub (show zy_S _ wsX12_find from (zy_c (zy_t (zy_l (zy_l (zy_t (zy_t (zy_t (zy_t (zy_t (zy_t (zy_t (zy_t (zy_t (zy_t (zy_t (zy_t (zy_t (zy_t (zy_t (zy_t (zy_t zy_h)))))))))))))))))))) (zy_c (zy_t (zy_l (zy_l (zy_t (zy_t (zy_t (zy_t (zy_t (zy_t (zy_t (zy_t (zy_t (zy_t (zy_t (zy_t (zy_t (zy_t (zy_t (zy_t (zy_t (zy_t zy_h))))))))))))))))))))) (zy_c (zy_t (zy_l (zy_l (zy_t (zy_t (zy_t (zy_t (zy_t (zy_t (zy_t (zy_t (zy_t (zy_t (zy_t (zy_t (zy_t (zy_t (zy_t (zy_t (zy_t (zy_t (zy_t zy_h)))))))))))))))))))))) (zy_c (zy_t (zy_l (zy_l (zy_t (zy_t (zy_t (zy_t (zy_t (zy_t (zy_t (zy_t (zy_t zy_h)))))))))))) zy_n))))) (by decide +kernel)) ggX12_find_X12_bestRun | exact goodIn_app (goodIn_of _ (by decide +kernel)) ggX12_find_X12_bestRun
set_option maxRecDepth 20000 in
theorem ggX12_find_X12_power : GoodIn wsX12_find wsX12_power := by first | exact goodIn_sub (show zy_S _ wsX12_find from (zy_c (zy_t (zy_l (zy_l (zy_t (zy_t (zy_t (zy_t (zy_t (zy_t (zy_t (zy_t (zy_t (zy_t (zy_t (zy_t (zy_t (zy_t (zy_t (zy_t (zy_t (zy_t (zy_t (zy_t (zy_t (zy_t (zy_t zy_h)))))))))))))))))))))))))) zy_n)) (by decide +kernel) | exact goodIn_r _ [24] (by decide +kernel) (by decide +kernel)
set_option maxRecDepth 20000 in
theorem gX12_find_X12_power : GoodIn wsX12_find (va_wsS RX12 124 yX12_power wsX12_power) := by first | exact goodIn_app (goodIn_sub (show zy_S _ wsX12_find from (zy_c (zy_t (zy_l (zy_l (zy_t (zy_t (zy_t (zy_t (zy_t (zy_t (zy_t (zy_t (zy_t (zy_t (zy_t (zy_t (zy_t (zy_t (zy_t (zy_t (zy_t (zy_t (zy_t (zy_t (zy_t zy_h)))))))))))))))))))))))) (zy_c (zy_t (zy_l (zy_l (zy_t (zy_t (zy_t (zy_t (zy_t (zy_t (zy_t (zy_t (zy_t (zy_t (zy_t (zy_t (zy_t (zy_t (zy_t (zy_t (zy_t (zy_t (zy_t (zy_t (zy_t (zy_t zy_h))))))))))))))))))))))))) (zy_c (zy_t (zy_l (zy_l (zy_t (zy_t (zy_t (zy_t (zy_t (zy_t (zy_t (zy_t (zy_t zy_h)))))))))))) zy_n)))) (by decide +kernel)) ggX12_find_X12_power | exact goodIn_app (goodIn_of _ (by decide +kernel)) ggX12_find_X12_power
set_option maxRecDepth 20000 in
theorem ggX12_find_X12_halves : GoodIn wsX12_find wsX12_halves := by first | exact goodIn_sub (show zy_S _ wsX12_find from (zy_c (zy_t (zy_l (zy_r (zy_l (zy_t (zy_t (zy_t zy_h))))))) (zy_a (zy_c (zy_t (zy_l (zy_l (zy_t (zy_t zy_h))))) (zy_c (zy_t (zy_l (zy_r (zy_l (zy_t (zy_t (zy_t (zy_t zy_h)))))))) (zy_c (zy_t (zy_l (zy_l (zy_t (zy_t (zy_t (zy_t zy_h))))))) zy_n))) (zy_p (fun _ h => (zy_t (zy_r h))))))) (by decide +kernel) | exact goodIn_r _ [28, 3, 29, 5, 83, 84, 85, 86, 87, 88, 89, 90, 91, 92, 93, 94, 95, 96, 97, 98, 99, 100, 101, 102, 103, 104, 105, 106, 107, 108, 109, 110, 111, 112, 113, 114, 115, 116, 117, 118] (by decide +kernel) (by decide +kernel)
set_option maxRecDepth 20000 in
theorem gX12_find_X12_halves : GoodIn wsX12_find (wsV RX12 155 RX12 yX12_halves wsX12_halves) := by first | exact goodIn_app (goodIn_sub (show zy_S _ wsX12_find from (zy_c (zy_t (zy_l (zy_r (zy_l zy_h)))) (zy_c (zy_t (zy_l (zy_r (zy_l (zy_t zy_h))))) (zy_c (zy_t (zy_l (zy_r (zy_l (zy_t (zy_t zy_h)))))) (zy_c (zy_t (zy_l (zy_l (zy_t (zy_t (zy_t (zy_t (zy_t (zy_t (zy_t (zy_t (zy_t zy_h)))))))))))) zy_n))))) (by decide +kernel)) ggX12_find_X12_halves | exact goodIn_app (goodIn_of _ (by decide +kernel)) ggX12_find_X12_halves
set_option maxRecDepth 20000 in
theorem ggX12_find_X12_classes : GoodIn wsX12_find wsX12_classes := by first | exact goodIn_sub (show zy_S _ wsX12_find from (zy_c (zy_t (zy_l (zy_r (zy_l (zy_t (zy_t (zy_t (zy_t (zy_t (zy_t (zy_t (zy_t zy_h)))))))))))) (zy_a (zy_c (zy_t (zy_l (zy_r (zy_l (zy_t (zy_t (zy_t (zy_t (zy_t (zy_t (zy_t (zy_t (zy_t zy_h))))))))))))) (zy_c (zy_t (zy_l (zy_r (zy_l (zy_t (zy_t (zy_t (zy_t (zy_t (zy_t (zy_t (zy_t (zy_t (zy_t zy_h)))))))))))))) (zy_c (zy_t (zy_l (zy_l (zy_t (zy_t (zy_t (zy_t zy_h))))))) (zy_c (zy_t (zy_l (zy_r (zy_l (zy_t (zy_t (zy_t (zy_t (zy_t (zy_t (zy_t (zy_t (zy_t (zy_t (zy_t zy_h))))))))))))))) (zy_c (zy_t (zy_l (zy_r (zy_l (zy_t (zy_t (zy_t (zy_t (zy_t (zy_t (zy_t (zy_t (zy_t (zy_t (zy_t (zy_t zy_h)))))))))))))))) (zy_c (zy_t (zy_l (zy_r (zy_l (zy_t (zy_t (zy_t (zy_t (zy_t (zy_t (zy_t (zy_t (zy_t (zy_t (zy_t (zy_t (zy_t zy_h))))))))))))))))) (zy_c (zy_t (zy_l (zy_l (zy_t (zy_t (zy_t (zy_t (zy_t (zy_t (zy_t (zy_t (zy_t zy_h)))))))))))) (zy_c (zy_t (zy_l (zy_r (zy_l (zy_t (zy_t (zy_t (zy_t (zy_t (zy_t (zy_t (zy_t (zy_t (zy_t (zy_t (zy_t (zy_t (zy_t zy_h)))))))))))))))))) (zy_c (zy_t (zy_l (zy_l (zy_t (zy_t (zy_t (zy_t (zy_t (zy_t (zy_t (zy_t (zy_t (zy_t (zy_t (zy_t (zy_t (zy_t (zy_t (zy_t zy_h))))))))))))))))))) zy_n))))))))) (zy_p (fun _ h => (zy_t (zy_r h))))))) (by decide +kernel) | exact goodIn_r _ [33, 34, 35, 5, 36, 37, 38, 10, 39, 17, 83, 84, 85, 86, 87, 88, 89, 90, 91, 92, 93, 94, 95, 96, 97, 98, 99, 100, 101, 102, 103, 104, 105, 106, 107, 108, 109, 110, 111, 112, 113, 114, 115, 116, 117, 118] (by decide +kernel) (by decide +kernel)
set_option maxRecDepth 20000 in
theorem gX12_find_X12_classes : GoodIn wsX12_find (wsV RX12 158 RX12 yX12_classes wsX12_classes) := by first | exact goodIn_app (goodIn_sub (show zy_S _ wsX12_find from (zy_c (zy_t (zy_l (zy_r (zy_l (zy_t (zy_t (zy_t (zy_t (zy_t zy_h))))))))) (zy_c (zy_t (zy_l (zy_r (zy_l (zy_t (zy_t (zy_t (zy_t (zy_t (zy_t zy_h)))))))))) (zy_c (zy_t (zy_l (zy_r (zy_l (zy_t (zy_t (zy_t (zy_t (zy_t (zy_t (zy_t zy_h))))))))))) (zy_c (zy_t (zy_l (zy_l (zy_t (zy_t (zy_t (zy_t (zy_t (zy_t (zy_t (zy_t (zy_t zy_h)))))))))))) zy_n))))) (by decide +kernel)) ggX12_find_X12_classes | exact goodIn_app (goodIn_of _ (by decide +kernel)) ggX12_find_X12_classes
set_option maxRecDepth 20000 in
theorem ggX12_find_X12_rowOfPages : GoodIn wsX12_find wsX12_rowOfPages := by first | exact goodIn_sub (show zy_S _ wsX12_find from (zy_c (zy_t (zy_l (zy_r (zy_l (zy_t (zy_t (zy_t (zy_t (zy_t (zy_t (zy_t (zy_t (zy_t (zy_t (zy_t (zy_t (zy_t (zy_t (zy_t (zy_t (zy_t (zy_t zy_h)))))))))))))))))))))) (zy_a (zy_c (zy_t (zy_l (zy_r (zy_l (zy_t (zy_t (zy_t (zy_t (zy_t (zy_t (zy_t (zy_t (zy_t zy_h))))))))))))) (zy_c (zy_t (zy_l (zy_l (zy_t (zy_t (zy_t (zy_t zy_h))))))) (zy_c (zy_t (zy_l (zy_r (zy_l (zy_t (zy_t (zy_t (zy_t (zy_t (zy_t (zy_t (zy_t (zy_t (zy_t zy_h)))))))))))))) zy_n))) (zy_p (fun _ h => (zy_t (zy_r h))))))) (by decide +kernel) | exact goodIn_r _ [43, 34, 5, 35, 83, 84, 85, 86, 87, 88, 89, 90, 91, 92, 93, 94, 95, 96, 97, 98, 99, 100, 101, 102, 103, 104, 105, 106, 107, 108, 109, 110, 111, 112, 113, 114, 115, 116, 117, 118] (by decide +kernel) (by decide +kernel)
set_option maxRecDepth 20000 in
theorem gX12_find_X12_rowOfPages : GoodIn wsX12_find (wsV RX12 161 RX12 yX12_rowOfPages wsX12_rowOfPages) := by first | exact goodIn_app (goodIn_sub (show zy_S _ wsX12_find from (zy_c (zy_t (zy_l (zy_r (zy_l (zy_t (zy_t (zy_t (zy_t (zy_t (zy_t (zy_t (zy_t (zy_t (zy_t (zy_t (zy_t (zy_t (zy_t (zy_t zy_h))))))))))))))))))) (zy_c (zy_t (zy_l (zy_r (zy_l (zy_t (zy_t (zy_t (zy_t (zy_t (zy_t (zy_t (zy_t (zy_t (zy_t (zy_t (zy_t (zy_t (zy_t (zy_t (zy_t zy_h)))))))))))))))))))) (zy_c (zy_t (zy_l (zy_r (zy_l (zy_t (zy_t (zy_t (zy_t (zy_t (zy_t (zy_t (zy_t (zy_t (zy_t (zy_t (zy_t (zy_t (zy_t (zy_t (zy_t (zy_t zy_h))))))))))))))))))))) (zy_c (zy_t (zy_l (zy_l (zy_t (zy_t (zy_t (zy_t (zy_t (zy_t (zy_t (zy_t (zy_t zy_h)))))))))))) zy_n))))) (by decide +kernel)) ggX12_find_X12_rowOfPages | exact goodIn_app (goodIn_of _ (by decide +kernel)) ggX12_find_X12_rowOfPages
set_option maxRecDepth 20000 in
theorem ggX12_find_X12_bits : GoodIn wsX12_find wsX12_bits := by first | exact goodIn_sub (show zy_S _ wsX12_find from (zy_c (zy_t (zy_l (zy_r (zy_l (zy_t (zy_t (zy_t (zy_t (zy_t (zy_t (zy_t (zy_t (zy_t (zy_t (zy_t (zy_t (zy_t (zy_t (zy_t (zy_t (zy_t (zy_t (zy_t (zy_t (zy_t (zy_t zy_h)))))))))))))))))))))))))) (zy_a (zy_c (zy_t (zy_l (zy_r (zy_l (zy_t (zy_t (zy_t (zy_t (zy_t (zy_t (zy_t (zy_t (zy_t (zy_t (zy_t (zy_t (zy_t (zy_t (zy_t (zy_t (zy_t (zy_t (zy_t (zy_t (zy_t (zy_t (zy_t zy_h))))))))))))))))))))))))))) (zy_c (zy_t (zy_l (zy_r (zy_r (zy_l zy_h))))) (zy_c (zy_t (zy_l (zy_r (zy_r (zy_l (zy_t zy_h)))))) (zy_c (zy_t (zy_l (zy_r (zy_r (zy_l (zy_t (zy_t zy_h))))))) (zy_c (zy_t (zy_l (zy_l (zy_t (zy_t zy_h))))) (zy_c (zy_t (zy_l (zy_l (zy_t (zy_t (zy_t (zy_t zy_h))))))) (zy_c (zy_t (zy_l (zy_l (zy_t (zy_t (zy_t (zy_t (zy_t (zy_t (zy_t (zy_t (zy_t (zy_t (zy_t (zy_t (zy_t (zy_t (zy_t (zy_t (zy_t (zy_t (zy_t (zy_t (zy_t zy_h)))))))))))))))))))))))) (zy_c (zy_t (zy_l (zy_l (zy_t (zy_t (zy_t (zy_t (zy_t (zy_t (zy_t (zy_t (zy_t (zy_t (zy_t (zy_t (zy_t (zy_t (zy_t (zy_t (zy_t (zy_t (zy_t (zy_t (zy_t (zy_t zy_h))))))))))))))))))))))))) (zy_c (zy_t (zy_l (zy_l (zy_t (zy_t (zy_t (zy_t (zy_t (zy_t (zy_t (zy_t (zy_t zy_h)))))))))))) (zy_c (zy_t (zy_l (zy_l (zy_t (zy_t (zy_t (zy_t (zy_t (zy_t (zy_t (zy_t (zy_t (zy_t (zy_t (zy_t (zy_t (zy_t (zy_t (zy_t (zy_t (zy_t (zy_t (zy_t (zy_t (zy_t (zy_t zy_h)))))))))))))))))))))))))) (zy_c (zy_t (zy_l (zy_r (zy_l (zy_t (zy_t (zy_t (zy_t (zy_t (zy_t (zy_t (zy_t (zy_t (zy_t (zy_t zy_h))))))))))))))) (zy_c (zy_t (zy_l (zy_r (zy_l (zy_t (zy_t (zy_t (zy_t (zy_t (zy_t (zy_t (zy_t (zy_t (zy_t (zy_t (zy_t zy_h)))))))))))))))) (zy_c (zy_t (zy_l (zy_r (zy_l (zy_t (zy_t (zy_t (zy_t (zy_t (zy_t (zy_t (zy_t (zy_t (zy_t (zy_t (zy_t (zy_t zy_h))))))))))))))))) (zy_c (zy_t (zy_l (zy_r (zy_l (zy_t (zy_t (zy_t (zy_t (zy_t (zy_t (zy_t (zy_t (zy_t (zy_t (zy_t (zy_t (zy_t (zy_t zy_h)))))))))))))))))) (zy_c (zy_t (zy_l (zy_l (zy_t (zy_t (zy_t (zy_t (zy_t (zy_t (zy_t (zy_t (zy_t (zy_t (zy_t (zy_t (zy_t (zy_t (zy_t (zy_t zy_h))))))))))))))))))) zy_n))))))))))))))) (zy_p (fun _ h => (zy_t (zy_r h))))))) (by decide +kernel) | exact goodIn_r _ [47, 48, 49, 50, 51, 3, 5, 22, 23, 10, 24, 36, 37, 38, 39, 17, 83, 84, 85, 86, 87, 88, 89, 90, 91, 92, 93, 94, 95, 96, 97, 98, 99, 100, 101, 102, 103, 104, 105, 106, 107, 108, 109, 110, 111, 112, 113, 114, 115, 116, 117, 118] (by decide +kernel) (by decide +kernel)
set_option maxRecDepth 20000 in
theorem gX12_find_X12_bits : GoodIn wsX12_find (wsV RX12 164 RX12 yX12_bits wsX12_bits) := by first | exact goodIn_app (goodIn_sub (show zy_S _ wsX12_find from (zy_c (zy_t (zy_l (zy_r (zy_l (zy_t (zy_t (zy_t (zy_t (zy_t (zy_t (zy_t (zy_t (zy_t (zy_t (zy_t (zy_t (zy_t (zy_t (zy_t (zy_t (zy_t (zy_t (zy_t zy_h))))))))))))))))))))))) (zy_c (zy_t (zy_l (zy_r (zy_l (zy_t (zy_t (zy_t (zy_t (zy_t (zy_t (zy_t (zy_t (zy_t (zy_t (zy_t (zy_t (zy_t (zy_t (zy_t (zy_t (zy_t (zy_t (zy_t (zy_t zy_h)))))))))))))))))))))))) (zy_c (zy_t (zy_l (zy_r (zy_l (zy_t (zy_t (zy_t (zy_t (zy_t (zy_t (zy_t (zy_t (zy_t (zy_t (zy_t (zy_t (zy_t (zy_t (zy_t (zy_t (zy_t (zy_t (zy_t (zy_t (zy_t zy_h))))))))))))))))))))))))) (zy_c (zy_t (zy_l (zy_l (zy_t (zy_t (zy_t (zy_t (zy_t (zy_t (zy_t (zy_t (zy_t zy_h)))))))))))) zy_n))))) (by decide +kernel)) ggX12_find_X12_bits | exact goodIn_app (goodIn_of _ (by decide +kernel)) ggX12_find_X12_bits
set_option maxRecDepth 20000 in
theorem ggX12_find_X12_levels : GoodIn wsX12_find wsX12_levels := by first | exact goodIn_sub (show zy_S _ wsX12_find from (zy_c (zy_t (zy_l (zy_r (zy_r (zy_l (zy_t (zy_t (zy_t (zy_t (zy_t (zy_t zy_h))))))))))) (zy_a (zy_c (zy_t (zy_l (zy_r (zy_r (zy_l (zy_t (zy_t (zy_t (zy_t (zy_t (zy_t (zy_t zy_h)))))))))))) (zy_c (zy_t (zy_l (zy_l (zy_t (zy_t (zy_t (zy_t zy_h))))))) (zy_c (zy_t (zy_l (zy_r (zy_r (zy_l (zy_t (zy_t (zy_t (zy_t (zy_t (zy_t (zy_t (zy_t zy_h))))))))))))) (zy_c (zy_t (zy_l (zy_r (zy_r (zy_l (zy_t (zy_t (zy_t (zy_t (zy_t (zy_t (zy_t (zy_t (zy_t zy_h)))))))))))))) (zy_c (zy_t (zy_l (zy_r (zy_r (zy_l (zy_t (zy_t (zy_t (zy_t (zy_t (zy_t (zy_t (zy_t (zy_t (zy_t zy_h))))))))))))))) (zy_c (zy_t (zy_l (zy_l (zy_t (zy_t (zy_t (zy_t (zy_t (zy_t (zy_t (zy_t (zy_t zy_h)))))))))))) (zy_c (zy_t (zy_l (zy_r (zy_r (zy_l (zy_t (zy_t (zy_t (zy_t (zy_t (zy_t (zy_t (zy_t (zy_t (zy_t (zy_t zy_h)))))))))))))))) (zy_c (zy_t (zy_l (zy_r (zy_r (zy_l (zy_t (zy_t (zy_t (zy_t (zy_t (zy_t (zy_t (zy_t (zy_t (zy_t (zy_t (zy_t zy_h))))))))))))))))) (zy_c (zy_t (zy_l (zy_r (zy_r (zy_l (zy_t (zy_t (zy_t (zy_t (zy_t (zy_t (zy_t (zy_t (zy_t (zy_t (zy_t (zy_t (zy_t zy_h)))))))))))))))))) (zy_c (zy_t (zy_l (zy_r (zy_r (zy_l (zy_t (zy_t (zy_t (zy_t (zy_t (zy_t (zy_t (zy_t (zy_t (zy_t (zy_t (zy_t (zy_t (zy_t zy_h))))))))))))))))))) (zy_c (zy_t (zy_l (zy_r (zy_r (zy_l (zy_t (zy_t (zy_t (zy_t (zy_t (zy_t (zy_t (zy_t (zy_t (zy_t (zy_t (zy_t (zy_t (zy_t (zy_t zy_h)))))))))))))))))))) (zy_c (zy_t (zy_l (zy_l (zy_t (zy_t zy_h))))) (zy_c (zy_t (zy_l (zy_l (zy_t (zy_t (zy_t (zy_t (zy_t (zy_t (zy_t (zy_t (zy_t (zy_t (zy_t (zy_t (zy_t (zy_t (zy_t (zy_t zy_h))))))))))))))))))) (zy_c (zy_t (zy_l (zy_r (zy_r (zy_l (zy_t (zy_t (zy_t (zy_t (zy_t (zy_t (zy_t (zy_t (zy_t (zy_t (zy_t (zy_t (zy_t (zy_t (zy_t (zy_t zy_h))))))))))))))))))))) (zy_c (zy_t (zy_l (zy_r (zy_r (zy_l (zy_t (zy_t (zy_t (zy_t (zy_t (zy_t (zy_t (zy_t (zy_t (zy_t (zy_t (zy_t (zy_t (zy_t (zy_t (zy_t (zy_t zy_h)))))))))))))))))))))) (zy_c (zy_t (zy_l (zy_r (zy_r (zy_l (zy_t (zy_t (zy_t (zy_t (zy_t (zy_t (zy_t (zy_t (zy_t (zy_t (zy_t (zy_t (zy_t (zy_t (zy_t (zy_t (zy_t (zy_t zy_h))))))))))))))))))))))) (zy_c (zy_t (zy_l (zy_r (zy_r (zy_l (zy_t (zy_t (zy_t (zy_t (zy_t (zy_t (zy_t (zy_t (zy_t (zy_t (zy_t (zy_t (zy_t (zy_t (zy_t (zy_t (zy_t (zy_t (zy_t zy_h)))))))))))))))))))))))) (zy_c (zy_t (zy_l (zy_r (zy_r (zy_l (zy_t (zy_t (zy_t (zy_t (zy_t (zy_t (zy_t (zy_t (zy_t (zy_t (zy_t (zy_t (zy_t (zy_t (zy_t (zy_t (zy_t (zy_t (zy_t (zy_t zy_h))))))))))))))))))))))))) (zy_c (zy_t (zy_l (zy_r (zy_r (zy_l (zy_t (zy_t (zy_t (zy_t (zy_t (zy_t (zy_t (zy_t (zy_t (zy_t (zy_t (zy_t (zy_t (zy_t (zy_t (zy_t (zy_t (zy_t (zy_t (zy_t (zy_t zy_h)))))))))))))))))))))))))) (zy_c (zy_t (zy_l (zy_r (zy_r (zy_l (zy_t (zy_t (zy_t (zy_t (zy_t (zy_t (zy_t (zy_t (zy_t (zy_t (zy_t (zy_t (zy_t (zy_t (zy_t (zy_t (zy_t (zy_t (zy_t (zy_t (zy_t (zy_t zy_h))))))))))))))))))))))))))) (zy_c (zy_t (zy_l (zy_r (zy_r (zy_l (zy_t (zy_t (zy_t (zy_t (zy_t (zy_t (zy_t (zy_t (zy_t (zy_t (zy_t (zy_t (zy_t (zy_t (zy_t (zy_t (zy_t (zy_t (zy_t (zy_t (zy_t (zy_t (zy_t zy_h)))))))))))))))))))))))))))) zy_n))))))))))))))))))))) (zy_p (fun _ h => (zy_t (zy_r h))))))) (by decide +kernel) | exact goodIn_r _ [55, 56, 5, 57, 58, 59, 10, 60, 61, 62, 63, 64, 3, 17, 65, 66, 67, 68, 69, 70, 71, 72, 83, 84, 85, 86, 87, 88, 89, 90, 91, 92, 93, 94, 95, 96, 97, 98, 99, 100, 101, 102, 103, 104, 105, 106, 107, 108, 109, 110, 111, 112, 113, 114, 115, 116, 117, 118] (by decide +kernel) (by decide +kernel)
set_option maxRecDepth 20000 in
theorem gX12_find_X12_levels : GoodIn wsX12_find (wsV RX12 167 RX12 yX12_levels wsX12_levels) := by first | exact goodIn_app (goodIn_sub (show zy_S _ wsX12_find from (zy_c (zy_t (zy_l (zy_r (zy_r (zy_l (zy_t (zy_t (zy_t zy_h)))))))) (zy_c (zy_t (zy_l (zy_r (zy_r (zy_l (zy_t (zy_t (zy_t (zy_t zy_h))))))))) (zy_c (zy_t (zy_l (zy_r (zy_r (zy_l (zy_t (zy_t (zy_t (zy_t (zy_t zy_h)))))))))) (zy_c (zy_t (zy_l (zy_l (zy_t (zy_t (zy_t (zy_t (zy_t (zy_t (zy_t (zy_t (zy_t zy_h)))))))))))) zy_n))))) (by decide +kernel)) ggX12_find_X12_levels | exact goodIn_app (goodIn_of _ (by decide +kernel)) ggX12_find_X12_levels
set_option maxRecDepth 20000 in
theorem ggX12_find_X12_quick : GoodIn wsX12_find wsX12_quick := by first | exact goodIn_sub (show zy_S _ wsX12_find from (zy_c (zy_t (zy_l (zy_r (zy_r (zy_r (zy_t (zy_t (zy_t zy_h)))))))) (zy_a (zy_c (zy_t (zy_l (zy_r (zy_r (zy_r (zy_t (zy_t (zy_t (zy_t zy_h))))))))) (zy_c (zy_t (zy_l (zy_r (zy_r (zy_r (zy_t (zy_t (zy_t (zy_t (zy_t zy_h)))))))))) (zy_c (zy_t (zy_l (zy_l (zy_t (zy_t zy_h))))) (zy_c (zy_t (zy_l (zy_l (zy_t (zy_t (zy_t (zy_t (zy_t (zy_t zy_h))))))))) (zy_c (zy_t (zy_l (zy_l (zy_t (zy_t (zy_t (zy_t (zy_t (zy_t (zy_t zy_h)))))))))) (zy_c (zy_t (zy_l (zy_l (zy_t (zy_t (zy_t (zy_t (zy_t (zy_t (zy_t (zy_t zy_h))))))))))) (zy_c (zy_t (zy_l (zy_l (zy_t (zy_t (zy_t (zy_t (zy_t (zy_t (zy_t (zy_t (zy_t zy_h)))))))))))) (zy_c (zy_t (zy_l (zy_l (zy_t (zy_t (zy_t (zy_t (zy_t (zy_t (zy_t (zy_t (zy_t (zy_t zy_h))))))))))))) (zy_c (zy_t (zy_l (zy_l (zy_t (zy_t (zy_t (zy_t zy_h))))))) (zy_c (zy_t (zy_l (zy_l (zy_t (zy_t (zy_t (zy_t (zy_t (zy_t (zy_t (zy_t (zy_t (zy_t (zy_t zy_h)))))))))))))) (zy_c (zy_t (zy_l (zy_l (zy_t (zy_t (zy_t (zy_t (zy_t (zy_t (zy_t (zy_t (zy_t (zy_t (zy_t (zy_t zy_h))))))))))))))) (zy_c (zy_t (zy_l (zy_l (zy_t (zy_t (zy_t (zy_t (zy_t (zy_t (zy_t (zy_t (zy_t (zy_t (zy_t (zy_t (zy_t zy_h)))))))))))))))) (zy_c (zy_t (zy_l (zy_l (zy_t (zy_t (zy_t (zy_t (zy_t (zy_t (zy_t (zy_t (zy_t (zy_t (zy_t (zy_t (zy_t (zy_t zy_h))))))))))))))))) (zy_c (zy_t (zy_l (zy_l (zy_t (zy_t (zy_t (zy_t (zy_t (zy_t (zy_t (zy_t (zy_t (zy_t (zy_t (zy_t (zy_t (zy_t (zy_t zy_h)))))))))))))))))) (zy_c (zy_t (zy_l (zy_l (zy_t (zy_t (zy_t (zy_t (zy_t (zy_t (zy_t (zy_t (zy_t (zy_t (zy_t (zy_t (zy_t (zy_t (zy_t (zy_t zy_h))))))))))))))))))) (zy_c (zy_t (zy_l (zy_r (zy_r (zy_r (zy_t (zy_t (zy_t (zy_t (zy_t (zy_t zy_h))))))))))) (zy_c (zy_t (zy_l (zy_r (zy_r (zy_r (zy_t (zy_t (zy_t (zy_t (zy_t (zy_t (zy_t zy_h)))))))))))) (zy_c (zy_t (zy_l (zy_r (zy_r (zy_r (zy_t (zy_t (zy_t (zy_t (zy_t (zy_t (zy_t (zy_t zy_h))))))))))))) (zy_c (zy_t (zy_l (zy_r (zy_r (zy_r (zy_t (zy_t (zy_t (zy_t (zy_t (zy_t (zy_t (zy_t (zy_t zy_h)))))))))))))) zy_n))))))))))))))))))) (zy_p (fun _ h => (zy_t (zy_r h))))))) (by decide +kernel) | exact goodIn_r _ [76, 77, 78, 3, 7, 8, 9, 10, 11, 5, 12, 13, 14, 15, 16, 17, 79, 80, 81, 82, 83, 84, 85, 86, 87, 88, 89, 90, 91, 92, 93, 94, 95, 96, 97, 98, 99, 100, 101, 102, 103, 104, 105, 106, 107, 108, 109, 110, 111, 112, 113, 114, 115, 116, 117, 118] (by decide +kernel) (by decide +kernel)
set_option maxRecDepth 20000 in
theorem gX12_find_X12_quick : GoodIn wsX12_find (wsV RX12 170 RX12 yX12_quick wsX12_quick) := by first | exact goodIn_app (goodIn_sub (show zy_S _ wsX12_find from (zy_c (zy_t (zy_l (zy_r (zy_r (zy_r zy_h))))) (zy_c (zy_t (zy_l (zy_r (zy_r (zy_r (zy_t zy_h)))))) (zy_c (zy_t (zy_l (zy_r (zy_r (zy_r (zy_t (zy_t zy_h))))))) (zy_c (zy_t (zy_l (zy_l (zy_t (zy_t (zy_t (zy_t (zy_t (zy_t (zy_t (zy_t (zy_t zy_h)))))))))))) zy_n))))) (by decide +kernel)) ggX12_find_X12_quick | exact goodIn_app (goodIn_of _ (by decide +kernel)) ggX12_find_X12_quick
theorem dX12_find_0 : decode cX12_find 0 = .ok (.aload_n 0, 1) := by decide +kernel
theorem dX12_find_1 : decode cX12_find 1 = .ok (.iload_n 1, 1) := by decide +kernel
theorem dX12_find_2 : decode cX12_find 2 = .ok (.putfield 149, 3) := by decide +kernel
theorem dX12_find_5 : decode cX12_find 5 = .ok (.aload_n 0, 1) := by decide +kernel
theorem dX12_find_6 : decode cX12_find 6 = .ok (.getfield 13, 3) := by decide +kernel
theorem dX12_find_9 : decode cX12_find 9 = .ok (.tableswitch 234 0 8 #[51, 62, 95, 95, 101, 118, 174, 196, 202], 51) := by decide +kernel
theorem dX12_find_60 : decode cX12_find 60 = .ok (.aload_n 0, 1) := by decide +kernel
theorem dX12_find_61 : decode cX12_find 61 = .ok (.iload_n 1, 1) := by decide +kernel
theorem dX12_find_62 : decode cX12_find 62 = .ok (.iconst 0, 1) := by decide +kernel
theorem dX12_find_63 : decode cX12_find 63 = .ok (.aload_n 0, 1) := by decide +kernel
theorem dX12_find_64 : decode cX12_find 64 = .ok (.getfield 76, 3) := by decide +kernel
theorem dX12_find_67 : decode cX12_find 67 = .ok (.invokevirtual 142, 3) := by decide +kernel
theorem dX12_find_70 : decode cX12_find 70 = .ok (.ireturn, 1) := by decide +kernel
theorem dX12_find_71 : decode cX12_find 71 = .ok (.aload_n 0, 1) := by decide +kernel
theorem dX12_find_72 : decode cX12_find 72 = .ok (.iload_n 1, 1) := by decide +kernel
theorem dX12_find_73 : decode cX12_find 73 = .ok (.aload_n 0, 1) := by decide +kernel
theorem dX12_find_74 : decode cX12_find 74 = .ok (.getfield 94, 3) := by decide +kernel
theorem dX12_find_77 : decode cX12_find 77 = .ok (.aload_n 0, 1) := by decide +kernel
theorem dX12_find_78 : decode cX12_find 78 = .ok (.getfield 76, 3) := by decide +kernel
theorem dX12_find_81 : decode cX12_find 81 = .ok (.invokevirtual 142, 3) := by decide +kernel
theorem dX12_find_84 : decode cX12_find 84 = .ok (.istore_n 2, 1) := by decide +kernel
theorem dX12_find_85 : decode cX12_find 85 = .ok (.iload_n 2, 1) := by decide +kernel
theorem dX12_find_86 : decode cX12_find 86 = .ok (.ifCond .lt 7, 3) := by decide +kernel
theorem dX12_find_89 : decode cX12_find 89 = .ok (.iload_n 2, 1) := by decide +kernel
theorem dX12_find_90 : decode cX12_find 90 = .ok (.goto 13, 3) := by decide +kernel
theorem dX12_find_93 : decode cX12_find 93 = .ok (.aload_n 0, 1) := by decide +kernel
theorem dX12_find_94 : decode cX12_find 94 = .ok (.iload_n 1, 1) := by decide +kernel
theorem dX12_find_95 : decode cX12_find 95 = .ok (.iconst 0, 1) := by decide +kernel
theorem dX12_find_96 : decode cX12_find 96 = .ok (.aload_n 0, 1) := by decide +kernel
theorem dX12_find_97 : decode cX12_find 97 = .ok (.getfield 94, 3) := by decide +kernel
theorem dX12_find_100 : decode cX12_find 100 = .ok (.invokevirtual 142, 3) := by decide +kernel
theorem dX12_find_103 : decode cX12_find 103 = .ok (.ireturn, 1) := by decide +kernel
theorem dX12_find_104 : decode cX12_find 104 = .ok (.aload_n 0, 1) := by decide +kernel
theorem dX12_find_105 : decode cX12_find 105 = .ok (.iload_n 1, 1) := by decide +kernel
theorem dX12_find_106 : decode cX12_find 106 = .ok (.invokevirtual 152, 3) := by decide +kernel
theorem dX12_find_109 : decode cX12_find 109 = .ok (.ireturn, 1) := by decide +kernel
theorem dX12_find_110 : decode cX12_find 110 = .ok (.aload_n 0, 1) := by decide +kernel
theorem dX12_find_111 : decode cX12_find 111 = .ok (.iload_n 1, 1) := by decide +kernel
theorem dX12_find_112 : decode cX12_find 112 = .ok (.invokestatic 124, 3) := by decide +kernel
theorem dX12_find_115 : decode cX12_find 115 = .ok (.putfield 149, 3) := by decide +kernel
theorem dX12_find_118 : decode cX12_find 118 = .ok (.aload_n 0, 1) := by decide +kernel
theorem dX12_find_119 : decode cX12_find 119 = .ok (.aload_n 0, 1) := by decide +kernel
theorem dX12_find_120 : decode cX12_find 120 = .ok (.getfield 149, 3) := by decide +kernel
theorem dX12_find_123 : decode cX12_find 123 = .ok (.invokevirtual 155, 3) := by decide +kernel
theorem dX12_find_126 : decode cX12_find 126 = .ok (.ireturn, 1) := by decide +kernel
theorem dX12_find_127 : decode cX12_find 127 = .ok (.aload_n 0, 1) := by decide +kernel
theorem dX12_find_128 : decode cX12_find 128 = .ok (.iload_n 1, 1) := by decide +kernel
theorem dX12_find_129 : decode cX12_find 129 = .ok (.bipush 32, 2) := by decide +kernel
theorem dX12_find_131 : decode cX12_find 131 = .ok (.if_icmp .gt 10, 3) := by decide +kernel
theorem dX12_find_134 : decode cX12_find 134 = .ok (.iload_n 1, 1) := by decide +kernel
theorem dX12_find_135 : decode cX12_find 135 = .ok (.invokestatic 124, 3) := by decide +kernel
theorem dX12_find_138 : decode cX12_find 138 = .ok (.goto 13, 3) := by decide +kernel
theorem dX12_find_141 : decode cX12_find 141 = .ok (.bipush 32, 2) := by decide +kernel
theorem dX12_find_143 : decode cX12_find 143 = .ok (.iload_n 1, 1) := by decide +kernel
theorem dX12_find_144 : decode cX12_find 144 = .ok (.bipush 31, 2) := by decide +kernel
theorem dX12_find_146 : decode cX12_find 146 = .ok (.iadd, 1) := by decide +kernel
theorem dX12_find_147 : decode cX12_find 147 = .ok (.bipush 32, 2) := by decide +kernel
theorem dX12_find_149 : decode cX12_find 149 = .ok (.idiv, 1) := by decide +kernel
theorem dX12_find_150 : decode cX12_find 150 = .ok (.imul, 1) := by decide +kernel
theorem dX12_find_151 : decode cX12_find 151 = .ok (.putfield 149, 3) := by decide +kernel
theorem dX12_find_154 : decode cX12_find 154 = .ok (.iload_n 1, 1) := by decide +kernel
theorem dX12_find_155 : decode cX12_find 155 = .ok (.bipush 32, 2) := by decide +kernel
theorem dX12_find_157 : decode cX12_find 157 = .ok (.if_icmp .gt 14, 3) := by decide +kernel
theorem dX12_find_160 : decode cX12_find 160 = .ok (.aload_n 0, 1) := by decide +kernel
theorem dX12_find_161 : decode cX12_find 161 = .ok (.aload_n 0, 1) := by decide +kernel
theorem dX12_find_162 : decode cX12_find 162 = .ok (.getfield 149, 3) := by decide +kernel
theorem dX12_find_165 : decode cX12_find 165 = .ok (.invokevirtual 158, 3) := by decide +kernel
theorem dX12_find_168 : decode cX12_find 168 = .ok (.goto 14, 3) := by decide +kernel
theorem dX12_find_171 : decode cX12_find 171 = .ok (.aload_n 0, 1) := by decide +kernel
theorem dX12_find_172 : decode cX12_find 172 = .ok (.aload_n 0, 1) := by decide +kernel
theorem dX12_find_173 : decode cX12_find 173 = .ok (.getfield 149, 3) := by decide +kernel
theorem dX12_find_176 : decode cX12_find 176 = .ok (.bipush 32, 2) := by decide +kernel
theorem dX12_find_178 : decode cX12_find 178 = .ok (.idiv, 1) := by decide +kernel
theorem dX12_find_179 : decode cX12_find 179 = .ok (.invokevirtual 161, 3) := by decide +kernel
theorem dX12_find_182 : decode cX12_find 182 = .ok (.ireturn, 1) := by decide +kernel
theorem dX12_find_183 : decode cX12_find 183 = .ok (.aload_n 0, 1) := by decide +kernel
theorem dX12_find_184 : decode cX12_find 184 = .ok (.iconst 4, 1) := by decide +kernel
theorem dX12_find_185 : decode cX12_find 185 = .ok (.iload_n 1, 1) := by decide +kernel
theorem dX12_find_186 : decode cX12_find 186 = .ok (.iconst 3, 1) := by decide +kernel
theorem dX12_find_187 : decode cX12_find 187 = .ok (.iadd, 1) := by decide +kernel
theorem dX12_find_188 : decode cX12_find 188 = .ok (.iconst 4, 1) := by decide +kernel
theorem dX12_find_189 : decode cX12_find 189 = .ok (.idiv, 1) := by decide +kernel
theorem dX12_find_190 : decode cX12_find 190 = .ok (.imul, 1) := by decide +kernel
theorem dX12_find_191 : decode cX12_find 191 = .ok (.putfield 149, 3) := by decide +kernel
theorem dX12_find_194 : decode cX12_find 194 = .ok (.aload_n 0, 1) := by decide +kernel
theorem dX12_find_195 : decode cX12_find 195 = .ok (.aload_n 0, 1) := by decide +kernel
theorem dX12_find_196 : decode cX12_find 196 = .ok (.getfield 149, 3) := by decide +kernel
theorem dX12_find_199 : decode cX12_find 199 = .ok (.iconst 4, 1) := by decide +kernel
theorem dX12_find_200 : decode cX12_find 200 = .ok (.idiv, 1) := by decide +kernel
theorem dX12_find_201 : decode cX12_find 201 = .ok (.invokevirtual 164, 3) := by decide +kernel
theorem dX12_find_204 : decode cX12_find 204 = .ok (.ireturn, 1) := by decide +kernel
theorem dX12_find_205 : decode cX12_find 205 = .ok (.aload_n 0, 1) := by decide +kernel
theorem dX12_find_206 : decode cX12_find 206 = .ok (.iload_n 1, 1) := by decide +kernel
theorem dX12_find_207 : decode cX12_find 207 = .ok (.invokevirtual 167, 3) := by decide +kernel
theorem dX12_find_210 : decode cX12_find 210 = .ok (.ireturn, 1) := by decide +kernel
theorem dX12_find_211 : decode cX12_find 211 = .ok (.aload_n 0, 1) := by decide +kernel
theorem dX12_find_212 : decode cX12_find 212 = .ok (.dup, 1) := by decide +kernel
theorem dX12_find_213 : decode cX12_find 213 = .ok (.getfield 91, 3) := by decide +kernel
theorem dX12_find_216 : decode cX12_find 216 = .ok (.iconst 1, 1) := by decide +kernel
theorem dX12_find_217 : decode cX12_find 217 = .ok (.iadd, 1) := by decide +kernel
theorem dX12_find_218 : decode cX12_find 218 = .ok (.putfield 91, 3) := by decide +kernel
theorem dX12_find_221 : decode cX12_find 221 = .ok (.aload_n 0, 1) := by decide +kernel
theorem dX12_find_222 : decode cX12_find 222 = .ok (.getfield 97, 3) := by decide +kernel
theorem dX12_find_225 : decode cX12_find 225 = .ok (.iload_n 1, 1) := by decide +kernel
theorem dX12_find_226 : decode cX12_find 226 = .ok (.iadd, 1) := by decide +kernel
theorem dX12_find_227 : decode cX12_find 227 = .ok (.aload_n 0, 1) := by decide +kernel
theorem dX12_find_228 : decode cX12_find 228 = .ok (.getfield 76, 3) := by decide +kernel
theorem dX12_find_231 : decode cX12_find 231 = .ok (.if_icmp .gt 10, 3) := by decide +kernel
theorem dX12_find_234 : decode cX12_find 234 = .ok (.aload_n 0, 1) := by decide +kernel
theorem dX12_find_235 : decode cX12_find 235 = .ok (.getfield 97, 3) := by decide +kernel
theorem dX12_find_238 : decode cX12_find 238 = .ok (.goto 4, 3) := by decide +kernel
theorem dX12_find_241 : decode cX12_find 241 = .ok (.iconst (-1), 1) := by decide +kernel
theorem dX12_find_242 : decode cX12_find 242 = .ok (.ireturn, 1) := by decide +kernel
theorem dX12_find_243 : decode cX12_find 243 = .ok (.aload_n 0, 1) := by decide +kernel
theorem dX12_find_244 : decode cX12_find 244 = .ok (.iload_n 1, 1) := by decide +kernel
theorem dX12_find_245 : decode cX12_find 245 = .ok (.invokevirtual 170, 3) := by decide +kernel
theorem dX12_find_248 : decode cX12_find 248 = .ok (.ireturn, 1) := by decide +kernel
set_option maxRecDepth 20000 in
theorem ggX12_give_X12_fails : GoodIn wsX12_give wsX12_fails := by first | exact goodIn_sub (show zy_S _ wsX12_give from (zy_c (zy_t (zy_l (zy_l (zy_t (zy_t (zy_t (zy_t (zy_t (zy_t (zy_t (zy_t (zy_t (zy_t (zy_t (zy_t (zy_t (zy_t (zy_t (zy_t (zy_t (zy_t (zy_t (zy_t (zy_t zy_h)))))))))))))))))))))))) (zy_a (zy_c (zy_t (zy_l (zy_l (zy_t (zy_t (zy_t (zy_t (zy_t (zy_t (zy_t (zy_t (zy_t (zy_t (zy_t (zy_t (zy_t (zy_t (zy_t (zy_t (zy_t (zy_t (zy_t (zy_t (zy_t (zy_t zy_h))))))))))))))))))))))))) zy_n) (zy_p (fun _ h => (zy_t (zy_r h))))))) (by decide +kernel) | exact goodIn_r _ [22, 23, 112, 113, 114, 115, 116, 117, 118, 119, 120, 121, 122, 123, 124, 125, 126, 127, 128, 129, 130, 131, 132, 133, 134, 135, 136, 137, 138, 139, 140, 141, 142, 143, 144, 145, 146, 147] (by decide +kernel) (by decide +kernel)
set_option maxRecDepth 20000 in
theorem gX12_give_X12_fails : GoodIn wsX12_give (wsV RX12 72 RX12 yX12_fails wsX12_fails) := by first | exact goodIn_app (goodIn_sub (show zy_S _ wsX12_give from (zy_c (zy_t (zy_l (zy_l (zy_t (zy_t (zy_t (zy_t (zy_t (zy_t (zy_t (zy_t (zy_t (zy_t (zy_t (zy_t (zy_t (zy_t (zy_t (zy_t (zy_t zy_h)))))))))))))))))))) (zy_c (zy_t (zy_l (zy_l (zy_t (zy_t (zy_t (zy_t (zy_t (zy_t (zy_t (zy_t (zy_t (zy_t (zy_t (zy_t (zy_t (zy_t (zy_t (zy_t (zy_t (zy_t zy_h))))))))))))))))))))) (zy_c (zy_t (zy_l (zy_l (zy_t (zy_t (zy_t (zy_t (zy_t (zy_t (zy_t (zy_t (zy_t (zy_t (zy_t (zy_t (zy_t (zy_t (zy_t (zy_t (zy_t (zy_t (zy_t zy_h)))))))))))))))))))))) (zy_c (zy_t (zy_l (zy_l (zy_t (zy_t (zy_t (zy_t (zy_t (zy_t (zy_t (zy_t (zy_t (zy_t (zy_t (zy_t (zy_t (zy_t (zy_t (zy_t (zy_t (zy_t (zy_t (zy_t zy_h))))))))))))))))))))))) zy_n))))) (by decide +kernel)) ggX12_give_X12_fails | exact goodIn_app (goodIn_of _ (by decide +kernel)) ggX12_give_X12_fails
set_option maxRecDepth 20000 in
theorem ggX12_give_X12_find : GoodIn wsX12_give wsX12_find := by first | exact goodIn_sub (show zy_S _ wsX12_give from (zy_c (zy_t (zy_l (zy_r (zy_l (zy_t (zy_t zy_h)))))) (zy_a (zy_a (zy_c (zy_t (zy_l (zy_l (zy_t (zy_t (zy_t (zy_t (zy_t (zy_t zy_h))))))))) (zy_c (zy_t (zy_l (zy_l zy_h))) (zy_c (zy_t (zy_l (zy_r (zy_l (zy_t (zy_t (zy_t zy_h))))))) (zy_c (zy_t (zy_l (zy_l (zy_t (zy_t (zy_t (zy_t (zy_t (zy_t (zy_t (zy_t (zy_t (zy_t (zy_t (zy_t (zy_t (zy_t (zy_t (zy_t zy_h))))))))))))))))))) (zy_c (zy_t (zy_l (zy_r (zy_l (zy_t (zy_t (zy_t (zy_t zy_h)))))))) (zy_c (zy_t (zy_l (zy_l (zy_t (zy_t (zy_t (zy_t (zy_t (zy_t (zy_t (zy_t (zy_t (zy_t (zy_t (zy_t (zy_t zy_h)))))))))))))))) (zy_c (zy_t (zy_l (zy_r (zy_l (zy_t (zy_t (zy_t (zy_t (zy_t zy_h))))))))) (zy_c (zy_t (zy_l (zy_r (zy_l (zy_t (zy_t (zy_t (zy_t (zy_t (zy_t zy_h)))))))))) (zy_c (zy_t (zy_l (zy_r (zy_l (zy_t (zy_t (zy_t (zy_t (zy_t (zy_t (zy_t zy_h))))))))))) (zy_c (zy_t (zy_l (zy_l (zy_t (zy_t (zy_t (zy_t (zy_t (zy_t (zy_t (zy_t (zy_t (zy_t (zy_t (zy_t (zy_t (zy_t (zy_t (zy_t (zy_t (zy_t (zy_t (zy_t zy_h))))))))))))))))))))))) (zy_c (zy_t (zy_l (zy_r (zy_l (zy_t (zy_t (zy_t (zy_t (zy_t (zy_t (zy_t (zy_t zy_h)))))))))))) (zy_c (zy_t (zy_l (zy_r (zy_l (zy_t (zy_t (zy_t (zy_t (zy_t (zy_t (zy_t (zy_t (zy_t zy_h))))))))))))) (zy_c (zy_t (zy_l (zy_r (zy_l (zy_t (zy_t (zy_t (zy_t (zy_t (zy_t (zy_t (zy_t (zy_t (zy_t zy_h)))))))))))))) (zy_c (zy_t (zy_l (zy_r (zy_l (zy_t (zy_t (zy_t (zy_t (zy_t (zy_t (zy_t (zy_t (zy_t (zy_t (zy_t zy_h))))))))))))))) (zy_c (zy_t (zy_l (zy_r (zy_l (zy_t (zy_t (zy_t (zy_t (zy_t (zy_t (zy_t (zy_t (zy_t (zy_t (zy_t (zy_t zy_h)))))))))))))))) (zy_c (zy_t (zy_l (zy_r (zy_l (zy_t (zy_t (zy_t (zy_t (zy_t (zy_t (zy_t (zy_t (zy_t (zy_t (zy_t (zy_t (zy_t zy_h))))))))))))))))) (zy_c (zy_t (zy_l (zy_l (zy_t (zy_t (zy_t (zy_t (zy_t (zy_t (zy_t (zy_t zy_h))))))))))) (zy_c (zy_t (zy_l (zy_r (zy_l (zy_t (zy_t (zy_t (zy_t (zy_t (zy_t (zy_t (zy_t (zy_t (zy_t (zy_t (zy_t (zy_t (zy_t zy_h)))))))))))))))))) (zy_c (zy_t (zy_l (zy_r (zy_l (zy_t (zy_t (zy_t (zy_t (zy_t (zy_t (zy_t (zy_t (zy_t (zy_t (zy_t (zy_t (zy_t (zy_t (zy_t zy_h))))))))))))))))))) (zy_c (zy_t (zy_l (zy_r (zy_l (zy_t (zy_t (zy_t (zy_t (zy_t (zy_t (zy_t (zy_t (zy_t (zy_t (zy_t (zy_t (zy_t (zy_t (zy_t (zy_t zy_h)))))))))))))))))))) (zy_c (zy_t (zy_l (zy_r (zy_l (zy_t (zy_t (zy_t (zy_t (zy_t (zy_t (zy_t (zy_t (zy_t (zy_t (zy_t (zy_t (zy_t (zy_t (zy_t (zy_t (zy_t zy_h))))))))))))))))))))) (zy_c (zy_t (zy_l (zy_r (zy_l (zy_t (zy_t (zy_t (zy_t (zy_t (zy_t (zy_t (zy_t (zy_t (zy_t (zy_t (zy_t (zy_t (zy_t (zy_t (zy_t (zy_t (zy_t zy_h)))))))))))))))))))))) (zy_c (zy_t (zy_l (zy_r (zy_l (zy_t (zy_t (zy_t (zy_t (zy_t (zy_t (zy_t (zy_t (zy_t (zy_t (zy_t (zy_t (zy_t (zy_t (zy_t (zy_t (zy_t (zy_t (zy_t zy_h))))))))))))))))))))))) (zy_c (zy_t (zy_l (zy_r (zy_l (zy_t (zy_t (zy_t (zy_t (zy_t (zy_t (zy_t (zy_t (zy_t (zy_t (zy_t (zy_t (zy_t (zy_t (zy_t (zy_t (zy_t (zy_t (zy_t (zy_t zy_h)))))))))))))))))))))))) zy_n)))))))))))))))))))))))) (zy_a (zy_c (zy_t (zy_l (zy_r (zy_l (zy_t (zy_t (zy_t (zy_t (zy_t (zy_t (zy_t (zy_t (zy_t (zy_t (zy_t (zy_t (zy_t (zy_t (zy_t (zy_t (zy_t (zy_t (zy_t (zy_t (zy_t zy_h))))))))))))))))))))))))) (zy_c (zy_t (zy_l (zy_r (zy_l (zy_t (zy_t (zy_t (zy_t (zy_t (zy_t (zy_t (zy_t (zy_t (zy_t (zy_t (zy_t (zy_t (zy_t (zy_t (zy_t (zy_t (zy_t (zy_t (zy_t (zy_t (zy_t zy_h)))))))))))))))))))))))))) (zy_c (zy_t (zy_l (zy_r (zy_l (zy_t (zy_t (zy_t (zy_t (zy_t (zy_t (zy_t (zy_t (zy_t (zy_t (zy_t (zy_t (zy_t (zy_t (zy_t (zy_t (zy_t (zy_t (zy_t (zy_t (zy_t (zy_t (zy_t zy_h))))))))))))))))))))))))))) (zy_c (zy_t (zy_l (zy_r (zy_r (zy_l zy_h))))) (zy_c (zy_t (zy_l (zy_r (zy_r (zy_l (zy_t zy_h)))))) (zy_c (zy_t (zy_l (zy_r (zy_r (zy_l (zy_t (zy_t zy_h))))))) (zy_c (zy_t (zy_l (zy_r (zy_r (zy_l (zy_t (zy_t (zy_t zy_h)))))))) (zy_c (zy_t (zy_l (zy_r (zy_r (zy_l (zy_t (zy_t (zy_t (zy_t zy_h))))))))) (zy_c (zy_t (zy_l (zy_r (zy_r (zy_l (zy_t (zy_t (zy_t (zy_t (zy_t zy_h)))))))))) (zy_c (zy_t (zy_l (zy_r (zy_r (zy_l (zy_t (zy_t (zy_t (zy_t (zy_t (zy_t zy_h))))))))))) (zy_c (zy_t (zy_l (zy_r (zy_r (zy_l (zy_t (zy_t (zy_t (zy_t (zy_t (zy_t (zy_t zy_h)))))))))))) (zy_c (zy_t (zy_l (zy_r (zy_r (zy_l (zy_t (zy_t (zy_t (zy_t (zy_t (zy_t (zy_t (zy_t zy_h))))))))))))) (zy_c (zy_t (zy_l (zy_r (zy_r (zy_l (zy_t (zy_t (zy_t (zy_t (zy_t (zy_t (zy_t (zy_t (zy_t zy_h)))))))))))))) (zy_c (zy_t (zy_l (zy_r (zy_r (zy_l (zy_t (zy_t (zy_t (zy_t (zy_t (zy_t (zy_t (zy_t (zy_t (zy_t zy_h))))))))))))))) (zy_c (zy_t (zy_l (zy_r (zy_r (zy_l (zy_t (zy_t (zy_t (zy_t (zy_t (zy_t (zy_t (zy_t (zy_t (zy_t (zy_t zy_h)))))))))))))))) (zy_c (zy_t (zy_l (zy_r (zy_r (zy_l (zy_t (zy_t (zy_t (zy_t (zy_t (zy_t (zy_t (zy_t (zy_t (zy_t (zy_t (zy_t zy_h))))))))))))))))) (zy_c (zy_t (zy_l (zy_r (zy_r (zy_l (zy_t (zy_t (zy_t (zy_t (zy_t (zy_t (zy_t (zy_t (zy_t (zy_t (zy_t (zy_t (zy_t zy_h)))))))))))))))))) (zy_c (zy_t (zy_l (zy_r (zy_r (zy_l (zy_t (zy_t (zy_t (zy_t (zy_t (zy_t (zy_t (zy_t (zy_t (zy_t (zy_t (zy_t (zy_t (zy_t zy_h))))))))))))))))))) (zy_c (zy_t (zy_l (zy_r (zy_r (zy_l (zy_t (zy_t (zy_t (zy_t (zy_t (zy_t (zy_t (zy_t (zy_t (zy_t (zy_t (zy_t (zy_t (zy_t (zy_t zy_h)))))))))))))))))))) (zy_c (zy_t (zy_l (zy_r (zy_r (zy_l (zy_t (zy_t (zy_t (zy_t (zy_t (zy_t (zy_t (zy_t (zy_t (zy_t (zy_t (zy_t (zy_t (zy_t (zy_t (zy_t zy_h))))))))))))))))))))) (zy_c (zy_t (zy_l (zy_r (zy_r (zy_l (zy_t (zy_t (zy_t (zy_t (zy_t (zy_t (zy_t (zy_t (zy_t (zy_t (zy_t (zy_t (zy_t (zy_t (zy_t (zy_t (zy_t zy_h)))))))))))))))))))))) (zy_c (zy_t (zy_l (zy_r (zy_r (zy_l (zy_t (zy_t (zy_t (zy_t (zy_t (zy_t (zy_t (zy_t (zy_t (zy_t (zy_t (zy_t (zy_t (zy_t (zy_t (zy_t (zy_t (zy_t zy_h))))))))))))))))))))))) (zy_c (zy_t (zy_l (zy_r (zy_r (zy_l (zy_t (zy_t (zy_t (zy_t (zy_t (zy_t (zy_t (zy_t (zy_t (zy_t (zy_t (zy_t (zy_t (zy_t (zy_t (zy_t (zy_t (zy_t (zy_t zy_h)))))))))))))))))))))))) (zy_c (zy_t (zy_l (zy_r (zy_r (zy_l (zy_t (zy_t (zy_t (zy_t (zy_t (zy_t (zy_t (zy_t (zy_t (zy_t (zy_t (zy_t (zy_t (zy_t (zy_t (zy_t (zy_t (zy_t (zy_t (zy_t zy_h))))))))))))))))))))))))) zy_n)))))))))))))))))))))))) (zy_a (zy_c (zy_t (zy_l (zy_r (zy_r (zy_l (zy_t (zy_t (zy_t (zy_t (zy_t (zy_t (zy_t (zy_t (zy_t (zy_t (zy_t (zy_t (zy_t (zy_t (zy_t (zy_t (zy_t (zy_t (zy_t (zy_t (zy_t zy_h)))))))))))))))))))))))))) (zy_c (zy_t (zy_l (zy_r (zy_r (zy_l (zy_t (zy_t (zy_t (zy_t (zy_t (zy_t (zy_t (zy_t (zy_t (zy_t (zy_t (zy_t (zy_t (zy_t (zy_t (zy_t (zy_t (zy_t (zy_t (zy_t (zy_t (zy_t zy_h))))))))))))))))))))))))))) (zy_c (zy_t (zy_l (zy_r (zy_r (zy_l (zy_t (zy_t (zy_t (zy_t (zy_t (zy_t (zy_t (zy_t (zy_t (zy_t (zy_t (zy_t (zy_t (zy_t (zy_t (zy_t (zy_t (zy_t (zy_t (zy_t (zy_t (zy_t (zy_t zy_h)))))))))))))))))))))))))))) (zy_c (zy_t (zy_l (zy_r (zy_r (zy_r (zy_l zy_h)))))) (zy_c (zy_t (zy_l (zy_r (zy_r (zy_r (zy_l (zy_t zy_h))))))) (zy_c (zy_t (zy_l (zy_r (zy_r (zy_r (zy_l (zy_t (zy_t zy_h)))))))) (zy_c (zy_t (zy_l (zy_r (zy_r (zy_r (zy_l (zy_t (zy_t (zy_t zy_h))))))))) (zy_c (zy_t (zy_l (zy_r (zy_r (zy_r (zy_l (zy_t (zy_t (zy_t (zy_t zy_h)))))))))) (zy_c (zy_t (zy_l (zy_r (zy_r (zy_r (zy_l (zy_t (zy_t (zy_t (zy_t (zy_t zy_h))))))))))) (zy_c (zy_t (zy_l (zy_r (zy_r (zy_r (zy_l (zy_t (zy_t (zy_t (zy_t (zy_t (zy_t zy_h)))))))))))) (zy_c (zy_t (zy_l (zy_r (zy_r (zy_r (zy_l (zy_t (zy_t (zy_t (zy_t (zy_t (zy_t (zy_t zy_h))))))))))))) (zy_c (zy_t (zy_l (zy_r (zy_r (zy_r (zy_l (zy_t (zy_t (zy_t (zy_t (zy_t (zy_t (zy_t (zy_t zy_h)))))))))))))) (zy_c (zy_t (zy_l (zy_r (zy_r (zy_r (zy_l (zy_t (zy_t (zy_t (zy_t (zy_t (zy_t (zy_t (zy_t (zy_t zy_h))))))))))))))) (zy_c (zy_t (zy_l (zy_r (zy_r (zy_r (zy_l (zy_t (zy_t (zy_t (zy_t (zy_t (zy_t (zy_t (zy_t (zy_t (zy_t zy_h)))))))))))))))) (zy_c (zy_t (zy_l (zy_r (zy_r (zy_r (zy_l (zy_t (zy_t (zy_t (zy_t (zy_t (zy_t (zy_t (zy_t (zy_t (zy_t (zy_t zy_h))))))))))))))))) (zy_c (zy_t (zy_l (zy_r (zy_r (zy_r (zy_l (zy_t (zy_t (zy_t (zy_t (zy_t (zy_t (zy_t (zy_t (zy_t (zy_t (zy_t (zy_t zy_h)))))))))))))))))) (zy_c (zy_t (zy_l (zy_r (zy_r (zy_r (zy_l (zy_t (zy_t (zy_t (zy_t (zy_t (zy_t (zy_t (zy_t (zy_t (zy_t (zy_t (zy_t (zy_t zy_h))))))))))))))))))) (zy_c (zy_t (zy_l (zy_r (zy_r (zy_r (zy_l (zy_t (zy_t (zy_t (zy_t (zy_t (zy_t (zy_t (zy_t (zy_t (zy_t (zy_t (zy_t (zy_t (zy_t zy_h)))))))))))))))))))) (zy_c (zy_t (zy_l (zy_r (zy_r (zy_r (zy_l (zy_t (zy_t (zy_t (zy_t (zy_t (zy_t (zy_t (zy_t (zy_t (zy_t (zy_t (zy_t (zy_t (zy_t (zy_t zy_h))))))))))))))))))))) (zy_c (zy_t (zy_l (zy_r (zy_r (zy_r (zy_l (zy_t (zy_t (zy_t (zy_t (zy_t (zy_t (zy_t (zy_t (zy_t (zy_t (zy_t (zy_t (zy_t (zy_t (zy_t (zy_t zy_h)))))))))))))))))))))) (zy_c (zy_t (zy_l (zy_r (zy_r (zy_r (zy_l (zy_t (zy_t (zy_t (zy_t (zy_t (zy_t (zy_t (zy_t (zy_t (zy_t (zy_t (zy_t (zy_t (zy_t (zy_t (zy_t (zy_t zy_h))))))))))))))))))))))) (zy_c (zy_t (zy_l (zy_r (zy_r (zy_r (zy_l (zy_t (zy_t (zy_t (zy_t (zy_t (zy_t (zy_t (zy_t (zy_t (zy_t (zy_t (zy_t (zy_t (zy_t (zy_t (zy_t (zy_t (zy_t zy_h)))))))))))))))))))))))) (zy_c (zy_t (zy_l (zy_r (zy_r (zy_r (zy_l (zy_t (zy_t (zy_t (zy_t (zy_t (zy_t (zy_t (zy_t (zy_t (zy_t (zy_t (zy_t (zy_t (zy_t (zy_t (zy_t (zy_t (zy_t (zy_t zy_h))))))))))))))))))))))))) (zy_c (zy_t (zy_l (zy_r (zy_r (zy_r (zy_l (zy_t (zy_t (zy_t (zy_t (zy_t (zy_t (zy_t (zy_t (zy_t (zy_t (zy_t (zy_t (zy_t (zy_t (zy_t (zy_t (zy_t (zy_t (zy_t (zy_t zy_h)))))))))))))))))))))))))) zy_n)))))))))))))))))))))))) (zy_c (zy_t (zy_l (zy_r (zy_r (zy_r (zy_l (zy_t (zy_t (zy_t (zy_t (zy_t (zy_t (zy_t (zy_t (zy_t (zy_t (zy_t (zy_t (zy_t (zy_t (zy_t (zy_t (zy_t (zy_t (zy_t (zy_t (zy_t zy_h))))))))))))))))))))))))))) (zy_c (zy_t (zy_l (zy_r (zy_r (zy_r (zy_l (zy_t (zy_t (zy_t (zy_t (zy_t (zy_t (zy_t (zy_t (zy_t (zy_t (zy_t (zy_t (zy_t (zy_t (zy_t (zy_t (zy_t (zy_t (zy_t (zy_t (zy_t (zy_t zy_h)))))))))))))))))))))))))))) (zy_c (zy_t (zy_l (zy_r (zy_r (zy_r (zy_l (zy_t (zy_t (zy_t (zy_t (zy_t (zy_t (zy_t (zy_t (zy_t (zy_t (zy_t (zy_t (zy_t (zy_t (zy_t (zy_t (zy_t (zy_t (zy_t (zy_t (zy_t (zy_t (zy_t zy_h))))))))))))))))))))))))))))) (zy_c (zy_t (zy_l (zy_r (zy_r (zy_r (zy_r zy_h)))))) (zy_c (zy_t (zy_l (zy_r (zy_r (zy_r (zy_r (zy_t zy_h))))))) (zy_c (zy_t (zy_l (zy_r (zy_r (zy_r (zy_r (zy_t (zy_t zy_h)))))))) (zy_c (zy_t (zy_l (zy_r (zy_r (zy_r (zy_r (zy_t (zy_t (zy_t zy_h))))))))) (zy_c (zy_t (zy_l (zy_r (zy_r (zy_r (zy_r (zy_t (zy_t (zy_t (zy_t zy_h)))))))))) (zy_c (zy_t (zy_l (zy_r (zy_r (zy_r (zy_r (zy_t (zy_t (zy_t (zy_t (zy_t zy_h))))))))))) (zy_c (zy_t (zy_l (zy_r (zy_r (zy_r (zy_r (zy_t (zy_t (zy_t (zy_t (zy_t (zy_t zy_h)))))))))))) zy_n))))))))))))) (zy_p (fun _ h => (zy_t (zy_r h))))))) (by decide +kernel) | exact goodIn_r _ [27, 7, 1, 28, 17, 29, 14, 30, 31, 32, 21, 33, 34, 35, 36, 37, 38, 9, 39, 40, 41, 42, 43, 44, 45, 46, 47, 48, 49, 50, 51, 52, 53, 54, 55, 56, 57, 58, 59, 60, 61, 62, 63, 64, 65, 66, 67, 68, 69, 70, 71, 72, 73, 74, 75, 76, 77, 78, 79, 80, 81, 82, 83, 84, 85, 86, 87, 88, 89, 90, 91, 92, 93, 94, 95, 96, 97, 98, 99, 100, 101, 102, 103, 112, 113, 114, 115, 116, 117, 118, 119, 120, 121, 122, 123, 124, 125, 126, 127, 128, 129, 130, 131, 132, 133, 134, 135, 136, 137, 138, 139, 140, 141, 142, 143, 144, 145, 146, 147] (by decide +kernel) (by decide +kernel)
set_option maxRecDepth 20000 in
theorem gX12_give_X12_find : GoodIn wsX12_give (wsV RX12 172 RX12 yX12_find wsX12_find) := by first | exact goodIn_app (goodIn_sub (show zy_S _ wsX12_give from (zy_c (zy_t (zy_l (zy_l (zy_t (zy_t (zy_t (zy_t (zy_t (zy_t (zy_t (zy_t (zy_t (zy_t (zy_t (zy_t (zy_t (zy_t (zy_t (zy_t (zy_t (zy_t (zy_t (zy_t (zy_t (zy_t (zy_t zy_h)))))))))))))))))))))))))) (zy_c (zy_t (zy_l (zy_r (zy_l zy_h)))) (zy_c (zy_t (zy_l (zy_r (zy_l (zy_t zy_h))))) (zy_c (zy_t (zy_l (zy_l (zy_t (zy_t (zy_t (zy_t (zy_t (zy_t (zy_t (zy_t (zy_t (zy_t (zy_t (zy_t (zy_t (zy_t (zy_t (zy_t (zy_t (zy_t (zy_t (zy_t zy_h))))))))))))))))))))))) zy_n))))) (by decide +kernel)) ggX12_give_X12_find | exact goodIn_app (goodIn_of _ (by decide +kernel)) ggX12_give_X12_find
set_option maxRecDepth 20000 in
theorem ggX12_give_X12_isUsed : GoodIn wsX12_give wsX12_isUsed := by first | exact goodIn_sub (show zy_S _ wsX12_give from (zy_c (zy_t (zy_l (zy_r (zy_r (zy_r (zy_r (zy_t (zy_t (zy_t (zy_t (zy_t (zy_t (zy_t (zy_t (zy_t (zy_t zy_h)))))))))))))))) (zy_a (zy_c (zy_t (zy_l (zy_l (zy_t (zy_t zy_h))))) (zy_c (zy_t (zy_l (zy_r (zy_r (zy_r (zy_r (zy_t (zy_t (zy_t (zy_t (zy_t (zy_t (zy_t (zy_t (zy_t (zy_t (zy_t zy_h))))))))))))))))) (zy_c (zy_t (zy_l (zy_r (zy_r (zy_r (zy_r (zy_t (zy_t (zy_t (zy_t (zy_t (zy_t (zy_t (zy_t (zy_t (zy_t (zy_t (zy_t zy_h)))))))))))))))))) (zy_c (zy_t (zy_l (zy_r (zy_r (zy_r (zy_r (zy_t (zy_t (zy_t (zy_t (zy_t (zy_t (zy_t (zy_t (zy_t (zy_t (zy_t (zy_t (zy_t zy_h))))))))))))))))))) (zy_c (zy_t (zy_l (zy_l (zy_t (zy_t (zy_t (zy_t (zy_t (zy_t (zy_t (zy_t (zy_t (zy_t (zy_t (zy_t (zy_t (zy_t (zy_t (zy_t (zy_t (zy_t (zy_t (zy_t zy_h))))))))))))))))))))))) (zy_c (zy_t (zy_l (zy_r (zy_r (zy_r (zy_r (zy_t (zy_t (zy_t (zy_t (zy_t (zy_t (zy_t (zy_t (zy_t (zy_t (zy_t (zy_t (zy_t (zy_t zy_h)))))))))))))))))))) (zy_c (zy_t (zy_l (zy_l (zy_t (zy_t (zy_t (zy_t zy_h))))))) (zy_c (zy_t (zy_l (zy_r (zy_l (zy_t (zy_t (zy_t zy_h))))))) (zy_c (zy_t (zy_l (zy_l (zy_t (zy_t (zy_t (zy_t (zy_t (zy_t (zy_t (zy_t zy_h))))))))))) zy_n))))))))) (zy_p (fun _ h => (zy_t (zy_r h))))))) (by decide +kernel) | exact goodIn_r _ [107, 3, 108, 109, 110, 21, 111, 5, 28, 9, 112, 113, 114, 115, 116, 117, 118, 119, 120, 121, 122, 123, 124, 125, 126, 127, 128, 129, 130, 131, 132, 133, 134, 135, 136, 137, 138, 139, 140, 141, 142, 143, 144, 145, 146, 147] (by decide +kernel) (by decide +kernel)
set_option maxRecDepth 20000 in
theorem gX12_give_X12_isUsed : GoodIn wsX12_give (wsV RX12 175 RX12 yX12_isUsed wsX12_isUsed) := by first | exact goodIn_app (goodIn_sub (show zy_S _ wsX12_give from (zy_c (zy_t (zy_l (zy_r (zy_r (zy_r (zy_r (zy_t (zy_t (zy_t (zy_t (zy_t (zy_t (zy_t zy_h))))))))))))) (zy_c (zy_t (zy_l (zy_r (zy_r (zy_r (zy_r (zy_t (zy_t (zy_t (zy_t (zy_t (zy_t (zy_t (zy_t zy_h)))))))))))))) (zy_c (zy_t (zy_l (zy_r (zy_r (zy_r (zy_r (zy_t (zy_t (zy_t (zy_t (zy_t (zy_t (zy_t (zy_t (zy_t zy_h))))))))))))))) (zy_c (zy_t (zy_l (zy_l (zy_t (zy_t (zy_t (zy_t (zy_t (zy_t (zy_t (zy_t (zy_t (zy_t (zy_t (zy_t (zy_t (zy_t (zy_t (zy_t (zy_t (zy_t (zy_t (zy_t zy_h))))))))))))))))))))))) zy_n))))) (by decide +kernel)) ggX12_give_X12_isUsed | exact goodIn_app (goodIn_of _ (by decide +kernel)) ggX12_give_X12_isUsed
theorem dX12_give_0 : decode cX12_give 0 = .ok (.aload_n 0, 1) := by decide +kernel
theorem dX12_give_1 : decode cX12_give 1 = .ok (.iload_n 1, 1) := by decide +kernel
theorem dX12_give_2 : decode cX12_give 2 = .ok (.iconst 1, 1) := by decide +kernel
theorem dX12_give_3 : decode cX12_give 3 = .ok (.if_icmp .lt 10, 3) := by decide +kernel
theorem dX12_give_6 : decode cX12_give 6 = .ok (.iload_n 1, 1) := by decide +kernel
theorem dX12_give_7 : decode cX12_give 7 = .ok (.sipush 1024, 3) := by decide +kernel
theorem dX12_give_10 : decode cX12_give 10 = .ok (.if_icmp .le 7, 3) := by decide +kernel
theorem dX12_give_13 : decode cX12_give 13 = .ok (.iconst 1, 1) := by decide +kernel
theorem dX12_give_14 : decode cX12_give 14 = .ok (.goto 29, 3) := by decide +kernel
theorem dX12_give_17 : decode cX12_give 17 = .ok (.aload_n 0, 1) := by decide +kernel
theorem dX12_give_18 : decode cX12_give 18 = .ok (.getfield 13, 3) := by decide +kernel
theorem dX12_give_21 : decode cX12_give 21 = .ok (.ifCond .ge 7, 3) := by decide +kernel
theorem dX12_give_24 : decode cX12_give 24 = .ok (.iconst 2, 1) := by decide +kernel
theorem dX12_give_25 : decode cX12_give 25 = .ok (.goto 18, 3) := by decide +kernel
theorem dX12_give_28 : decode cX12_give 28 = .ok (.aload_n 0, 1) := by decide +kernel
theorem dX12_give_29 : decode cX12_give 29 = .ok (.getfield 79, 3) := by decide +kernel
theorem dX12_give_32 : decode cX12_give 32 = .ok (.sipush 200, 3) := by decide +kernel
theorem dX12_give_35 : decode cX12_give 35 = .ok (.if_icmp .ne 7, 3) := by decide +kernel
theorem dX12_give_38 : decode cX12_give 38 = .ok (.iconst 3, 1) := by decide +kernel
theorem dX12_give_39 : decode cX12_give 39 = .ok (.goto 4, 3) := by decide +kernel
theorem dX12_give_42 : decode cX12_give 42 = .ok (.iconst 0, 1) := by decide +kernel
theorem dX12_give_43 : decode cX12_give 43 = .ok (.invokevirtual 72, 3) := by decide +kernel
theorem dX12_give_46 : decode cX12_give 46 = .ok (.ifCond .eq 5, 3) := by decide +kernel
theorem dX12_give_49 : decode cX12_give 49 = .ok (.iconst 0, 1) := by decide +kernel
theorem dX12_give_50 : decode cX12_give 50 = .ok (.ireturn, 1) := by decide +kernel
theorem dX12_give_51 : decode cX12_give 51 = .ok (.aload_n 0, 1) := by decide +kernel
theorem dX12_give_52 : decode cX12_give 52 = .ok (.iload_n 1, 1) := by decide +kernel
theorem dX12_give_53 : decode cX12_give 53 = .ok (.invokevirtual 172, 3) := by decide +kernel
theorem dX12_give_56 : decode cX12_give 56 = .ok (.istore_n 2, 1) := by decide +kernel
theorem dX12_give_57 : decode cX12_give 57 = .ok (.iload_n 2, 1) := by decide +kernel
theorem dX12_give_58 : decode cX12_give 58 = .ok (.ifCond .ge 5, 3) := by decide +kernel
theorem dX12_give_61 : decode cX12_give 61 = .ok (.iconst (-1), 1) := by decide +kernel
theorem dX12_give_62 : decode cX12_give 62 = .ok (.ireturn, 1) := by decide +kernel
theorem dX12_give_63 : decode cX12_give 63 = .ok (.iconst 0, 1) := by decide +kernel
theorem dX12_give_64 : decode cX12_give 64 = .ok (.istore_n 3, 1) := by decide +kernel
theorem dX12_give_65 : decode cX12_give 65 = .ok (.aload_n 0, 1) := by decide +kernel
theorem dX12_give_66 : decode cX12_give 66 = .ok (.iload_n 3, 1) := by decide +kernel
theorem dX12_give_67 : decode cX12_give 67 = .ok (.invokevirtual 175, 3) := by decide +kernel
theorem dX12_give_70 : decode cX12_give 70 = .ok (.ifCond .eq 9, 3) := by decide +kernel
theorem dX12_give_73 : decode cX12_give 73 = .ok (.iinc 3 1, 3) := by decide +kernel
theorem dX12_give_76 : decode cX12_give 76 = .ok (.goto (-11), 3) := by decide +kernel
theorem dX12_give_79 : decode cX12_give 79 = .ok (.aload_n 0, 1) := by decide +kernel
theorem dX12_give_80 : decode cX12_give 80 = .ok (.getfield 20, 3) := by decide +kernel
theorem dX12_give_83 : decode cX12_give 83 = .ok (.iload_n 3, 1) := by decide +kernel
theorem dX12_give_84 : decode cX12_give 84 = .ok (.aload_n 0, 1) := by decide +kernel
theorem dX12_give_85 : decode cX12_give 85 = .ok (.getfield 82, 3) := by decide +kernel
theorem dX12_give_88 : decode cX12_give 88 = .ok (.iconst 1, 1) := by decide +kernel
theorem dX12_give_89 : decode cX12_give 89 = .ok (.iadd, 1) := by decide +kernel
theorem dX12_give_90 : decode cX12_give 90 = .ok (.iastore, 1) := by decide +kernel
theorem dX12_give_91 : decode cX12_give 91 = .ok (.aload_n 0, 1) := by decide +kernel
theorem dX12_give_92 : decode cX12_give 92 = .ok (.getfield 23, 3) := by decide +kernel
theorem dX12_give_95 : decode cX12_give 95 = .ok (.iload_n 3, 1) := by decide +kernel
theorem dX12_give_96 : decode cX12_give 96 = .ok (.iload_n 2, 1) := by decide +kernel
theorem dX12_give_97 : decode cX12_give 97 = .ok (.iastore, 1) := by decide +kernel
theorem dX12_give_98 : decode cX12_give 98 = .ok (.aload_n 0, 1) := by decide +kernel
theorem dX12_give_99 : decode cX12_give 99 = .ok (.getfield 26, 3) := by decide +kernel
theorem dX12_give_102 : decode cX12_give 102 = .ok (.iload_n 3, 1) := by decide +kernel
theorem dX12_give_103 : decode cX12_give 103 = .ok (.aload_n 0, 1) := by decide +kernel
theorem dX12_give_104 : decode cX12_give 104 = .ok (.getfield 149, 3) := by decide +kernel
theorem dX12_give_107 : decode cX12_give 107 = .ok (.iastore, 1) := by decide +kernel
theorem dX12_give_108 : decode cX12_give 108 = .ok (.aload_n 0, 1) := by decide +kernel
theorem dX12_give_109 : decode cX12_give 109 = .ok (.getfield 29, 3) := by decide +kernel
theorem dX12_give_112 : decode cX12_give 112 = .ok (.iload_n 3, 1) := by decide +kernel
theorem dX12_give_113 : decode cX12_give 113 = .ok (.iload_n 1, 1) := by decide +kernel
theorem dX12_give_114 : decode cX12_give 114 = .ok (.iastore, 1) := by decide +kernel
theorem dX12_give_115 : decode cX12_give 115 = .ok (.iload_n 2, 1) := by decide +kernel
theorem dX12_give_116 : decode cX12_give 116 = .ok (.istore 4, 2) := by decide +kernel
theorem dX12_give_118 : decode cX12_give 118 = .ok (.iload 4, 2) := by decide +kernel
theorem dX12_give_120 : decode cX12_give 120 = .ok (.iload_n 2, 1) := by decide +kernel
theorem dX12_give_121 : decode cX12_give 121 = .ok (.aload_n 0, 1) := by decide +kernel
theorem dX12_give_122 : decode cX12_give 122 = .ok (.getfield 149, 3) := by decide +kernel
theorem dX12_give_125 : decode cX12_give 125 = .ok (.iadd, 1) := by decide +kernel
theorem dX12_give_126 : decode cX12_give 126 = .ok (.if_icmp .ge 17, 3) := by decide +kernel
theorem dX12_give_129 : decode cX12_give 129 = .ok (.aload_n 0, 1) := by decide +kernel
theorem dX12_give_130 : decode cX12_give 130 = .ok (.getfield 16, 3) := by decide +kernel
theorem dX12_give_133 : decode cX12_give 133 = .ok (.iload 4, 2) := by decide +kernel
theorem dX12_give_135 : decode cX12_give 135 = .ok (.iload_n 3, 1) := by decide +kernel
theorem dX12_give_136 : decode cX12_give 136 = .ok (.iastore, 1) := by decide +kernel
theorem dX12_give_137 : decode cX12_give 137 = .ok (.iinc 4 1, 3) := by decide +kernel
theorem dX12_give_140 : decode cX12_give 140 = .ok (.goto (-22), 3) := by decide +kernel
theorem dX12_give_143 : decode cX12_give 143 = .ok (.aload_n 0, 1) := by decide +kernel
theorem dX12_give_144 : decode cX12_give 144 = .ok (.getfield 13, 3) := by decide +kernel
theorem dX12_give_147 : decode cX12_give 147 = .ok (.bipush 8, 2) := by decide +kernel
theorem dX12_give_149 : decode cX12_give 149 = .ok (.if_icmp .ne 53, 3) := by decide +kernel
theorem dX12_give_152 : decode cX12_give 152 = .ok (.aload_n 0, 1) := by decide +kernel
theorem dX12_give_153 : decode cX12_give 153 = .ok (.getfield 45, 3) := by decide +kernel
theorem dX12_give_156 : decode cX12_give 156 = .ok (.aload_n 0, 1) := by decide +kernel
theorem dX12_give_157 : decode cX12_give 157 = .ok (.getfield 100, 3) := by decide +kernel
theorem dX12_give_160 : decode cX12_give 160 = .ok (.iload_n 2, 1) := by decide +kernel
theorem dX12_give_161 : decode cX12_give 161 = .ok (.iastore, 1) := by decide +kernel
theorem dX12_give_162 : decode cX12_give 162 = .ok (.aload_n 0, 1) := by decide +kernel
theorem dX12_give_163 : decode cX12_give 163 = .ok (.getfield 48, 3) := by decide +kernel
theorem dX12_give_166 : decode cX12_give 166 = .ok (.aload_n 0, 1) := by decide +kernel
theorem dX12_give_167 : decode cX12_give 167 = .ok (.getfield 100, 3) := by decide +kernel
theorem dX12_give_170 : decode cX12_give 170 = .ok (.aload_n 0, 1) := by decide +kernel
theorem dX12_give_171 : decode cX12_give 171 = .ok (.getfield 149, 3) := by decide +kernel
theorem dX12_give_174 : decode cX12_give 174 = .ok (.iastore, 1) := by decide +kernel
theorem dX12_give_175 : decode cX12_give 175 = .ok (.aload_n 0, 1) := by decide +kernel
theorem dX12_give_176 : decode cX12_give 176 = .ok (.getfield 51, 3) := by decide +kernel
theorem dX12_give_179 : decode cX12_give 179 = .ok (.aload_n 0, 1) := by decide +kernel
theorem dX12_give_180 : decode cX12_give 180 = .ok (.getfield 100, 3) := by decide +kernel
theorem dX12_give_183 : decode cX12_give 183 = .ok (.iconst 0, 1) := by decide +kernel
theorem dX12_give_184 : decode cX12_give 184 = .ok (.bastore, 1) := by decide +kernel
theorem dX12_give_185 : decode cX12_give 185 = .ok (.aload_n 0, 1) := by decide +kernel
theorem dX12_give_186 : decode cX12_give 186 = .ok (.dup, 1) := by decide +kernel
theorem dX12_give_187 : decode cX12_give 187 = .ok (.getfield 100, 3) := by decide +kernel
theorem dX12_give_190 : decode cX12_give 190 = .ok (.iconst 1, 1) := by decide +kernel
theorem dX12_give_191 : decode cX12_give 191 = .ok (.iadd, 1) := by decide +kernel
theorem dX12_give_192 : decode cX12_give 192 = .ok (.putfield 100, 3) := by decide +kernel
theorem dX12_give_195 : decode cX12_give 195 = .ok (.aload_n 0, 1) := by decide +kernel
theorem dX12_give_196 : decode cX12_give 196 = .ok (.iload_n 2, 1) := by decide +kernel
theorem dX12_give_197 : decode cX12_give 197 = .ok (.iload_n 1, 1) := by decide +kernel
theorem dX12_give_198 : decode cX12_give 198 = .ok (.iadd, 1) := by decide +kernel
theorem dX12_give_199 : decode cX12_give 199 = .ok (.putfield 97, 3) := by decide +kernel
theorem dX12_give_202 : decode cX12_give 202 = .ok (.aload_n 0, 1) := by decide +kernel
theorem dX12_give_203 : decode cX12_give 203 = .ok (.dup, 1) := by decide +kernel
theorem dX12_give_204 : decode cX12_give 204 = .ok (.getfield 82, 3) := by decide +kernel
theorem dX12_give_207 : decode cX12_give 207 = .ok (.iconst 1, 1) := by decide +kernel
theorem dX12_give_208 : decode cX12_give 208 = .ok (.iadd, 1) := by decide +kernel
theorem dX12_give_209 : decode cX12_give 209 = .ok (.putfield 82, 3) := by decide +kernel
theorem dX12_give_212 : decode cX12_give 212 = .ok (.aload_n 0, 1) := by decide +kernel
theorem dX12_give_213 : decode cX12_give 213 = .ok (.dup, 1) := by decide +kernel
theorem dX12_give_214 : decode cX12_give 214 = .ok (.getfield 79, 3) := by decide +kernel
theorem dX12_give_217 : decode cX12_give 217 = .ok (.iconst 1, 1) := by decide +kernel
theorem dX12_give_218 : decode cX12_give 218 = .ok (.iadd, 1) := by decide +kernel
theorem dX12_give_219 : decode cX12_give 219 = .ok (.putfield 79, 3) := by decide +kernel
theorem dX12_give_222 : decode cX12_give 222 = .ok (.aload_n 0, 1) := by decide +kernel
theorem dX12_give_223 : decode cX12_give 223 = .ok (.dup, 1) := by decide +kernel
theorem dX12_give_224 : decode cX12_give 224 = .ok (.getfield 85, 3) := by decide +kernel
theorem dX12_give_227 : decode cX12_give 227 = .ok (.iload_n 1, 1) := by decide +kernel
theorem dX12_give_228 : decode cX12_give 228 = .ok (.iadd, 1) := by decide +kernel
theorem dX12_give_229 : decode cX12_give 229 = .ok (.putfield 85, 3) := by decide +kernel
theorem dX12_give_232 : decode cX12_give 232 = .ok (.aload_n 0, 1) := by decide +kernel
theorem dX12_give_233 : decode cX12_give 233 = .ok (.dup, 1) := by decide +kernel
theorem dX12_give_234 : decode cX12_give 234 = .ok (.getfield 88, 3) := by decide +kernel
theorem dX12_give_237 : decode cX12_give 237 = .ok (.aload_n 0, 1) := by decide +kernel
theorem dX12_give_238 : decode cX12_give 238 = .ok (.getfield 149, 3) := by decide +kernel
theorem dX12_give_241 : decode cX12_give 241 = .ok (.iadd, 1) := by decide +kernel
theorem dX12_give_242 : decode cX12_give 242 = .ok (.putfield 88, 3) := by decide +kernel
theorem dX12_give_245 : decode cX12_give 245 = .ok (.aload_n 0, 1) := by decide +kernel
theorem dX12_give_246 : decode cX12_give 246 = .ok (.iload_n 2, 1) := by decide +kernel
theorem dX12_give_247 : decode cX12_give 247 = .ok (.aload_n 0, 1) := by decide +kernel
theorem dX12_give_248 : decode cX12_give 248 = .ok (.getfield 149, 3) := by decide +kernel
theorem dX12_give_251 : decode cX12_give 251 = .ok (.iadd, 1) := by decide +kernel
theorem dX12_give_252 : decode cX12_give 252 = .ok (.putfield 94, 3) := by decide +kernel
theorem dX12_give_255 : decode cX12_give 255 = .ok (.aload_n 0, 1) := by decide +kernel
theorem dX12_give_256 : decode cX12_give 256 = .ok (.getfield 82, 3) := by decide +kernel
theorem dX12_give_259 : decode cX12_give 259 = .ok (.iconst 1, 1) := by decide +kernel
theorem dX12_give_260 : decode cX12_give 260 = .ok (.isub, 1) := by decide +kernel
theorem dX12_give_261 : decode cX12_give 261 = .ok (.ireturn, 1) := by decide +kernel
set_option maxRecDepth 20000 in
theorem ggX12_isUsed_X12_isThere : GoodIn wsX12_isUsed wsX12_isThere := by first | exact goodIn_sub (show zy_S _ wsX12_isUsed from (zy_c (zy_t (zy_l (zy_t (zy_t (zy_t (zy_t (zy_t zy_h))))))) (zy_a (zy_c (zy_t (zy_l (zy_t (zy_t (zy_t (zy_t (zy_t (zy_t zy_h)))))))) (zy_c (zy_t (zy_l (zy_t (zy_t (zy_t (zy_t (zy_t (zy_t (zy_t zy_h))))))))) (zy_c (zy_t (zy_l (zy_t (zy_t (zy_t (zy_t (zy_t (zy_t (zy_t (zy_t zy_h)))))))))) zy_n))) (zy_p (fun _ h => (zy_t (zy_r h))))))) (by decide +kernel) | exact goodIn_r _ [6, 7, 8, 9, 10, 11, 12, 13, 14, 15, 16, 17, 18, 19, 20, 21, 22, 23, 24, 25, 26, 27, 28, 29, 30, 31, 32, 33, 34, 35, 36, 37, 38, 39, 40, 41, 42, 43, 44, 45] (by decide +kernel) (by decide +kernel)
set_option maxRecDepth 20000 in
theorem gX12_isUsed_X12_isThere : GoodIn wsX12_isUsed (wsV RX12 178 RX12 yX12_isThere wsX12_isThere) := by first | exact goodIn_app (goodIn_sub (show zy_S _ wsX12_isUsed from (zy_c (zy_t (zy_l (zy_t zy_h))) (zy_c (zy_t (zy_l (zy_t (zy_t zy_h)))) (zy_c (zy_t (zy_l (zy_t (zy_t (zy_t zy_h))))) (zy_c (zy_t (zy_l (zy_t (zy_t (zy_t (zy_t zy_h)))))) zy_n))))) (by decide +kernel)) ggX12_isUsed_X12_isThere | exact goodIn_app (goodIn_of _ (by decide +kernel)) ggX12_isUsed_X12_isThere
theorem dX12_isUsed_0 : decode cX12_isUsed 0 = .ok (.aload_n 0, 1) := by decide +kernel
theorem dX12_isUsed_1 : decode cX12_isUsed 1 = .ok (.getfield 20, 3) := by decide +kernel
theorem dX12_isUsed_4 : decode cX12_isUsed 4 = .ok (.iload_n 1, 1) := by decide +kernel
theorem dX12_isUsed_5 : decode cX12_isUsed 5 = .ok (.iaload, 1) := by decide +kernel
theorem dX12_isUsed_6 : decode cX12_isUsed 6 = .ok (.ifCond .le 22, 3) := by decide +kernel
theorem dX12_isUsed_9 : decode cX12_isUsed 9 = .ok (.iload_n 1, 1) := by decide +kernel
theorem dX12_isUsed_10 : decode cX12_isUsed 10 = .ok (.sipush 200, 3) := by decide +kernel
theorem dX12_isUsed_13 : decode cX12_isUsed 13 = .ok (.if_icmp .ge 15, 3) := by decide +kernel
theorem dX12_isUsed_16 : decode cX12_isUsed 16 = .ok (.aload_n 0, 1) := by decide +kernel
theorem dX12_isUsed_17 : decode cX12_isUsed 17 = .ok (.iload_n 1, 1) := by decide +kernel
theorem dX12_isUsed_18 : decode cX12_isUsed 18 = .ok (.invokevirtual 178, 3) := by decide +kernel
theorem dX12_isUsed_21 : decode cX12_isUsed 21 = .ok (.ifCond .eq 7, 3) := by decide +kernel
theorem dX12_isUsed_24 : decode cX12_isUsed 24 = .ok (.iconst 1, 1) := by decide +kernel
theorem dX12_isUsed_25 : decode cX12_isUsed 25 = .ok (.goto 4, 3) := by decide +kernel
theorem dX12_isUsed_28 : decode cX12_isUsed 28 = .ok (.iconst 0, 1) := by decide +kernel
theorem dX12_isUsed_29 : decode cX12_isUsed 29 = .ok (.ireturn, 1) := by decide +kernel
theorem dX12_isThere_0 : decode cX12_isThere 0 = .ok (.aload_n 0, 1) := by decide +kernel
theorem dX12_isThere_1 : decode cX12_isThere 1 = .ok (.getfield 23, 3) := by decide +kernel
theorem dX12_isThere_4 : decode cX12_isThere 4 = .ok (.iload_n 1, 1) := by decide +kernel
theorem dX12_isThere_5 : decode cX12_isThere 5 = .ok (.iaload, 1) := by decide +kernel
theorem dX12_isThere_6 : decode cX12_isThere 6 = .ok (.aload_n 0, 1) := by decide +kernel
theorem dX12_isThere_7 : decode cX12_isThere 7 = .ok (.getfield 76, 3) := by decide +kernel
theorem dX12_isThere_10 : decode cX12_isThere 10 = .ok (.if_icmp .ge 22, 3) := by decide +kernel
theorem dX12_isThere_13 : decode cX12_isThere 13 = .ok (.aload_n 0, 1) := by decide +kernel
theorem dX12_isThere_14 : decode cX12_isThere 14 = .ok (.getfield 16, 3) := by decide +kernel
theorem dX12_isThere_17 : decode cX12_isThere 17 = .ok (.aload_n 0, 1) := by decide +kernel
theorem dX12_isThere_18 : decode cX12_isThere 18 = .ok (.getfield 23, 3) := by decide +kernel
theorem dX12_isThere_21 : decode cX12_isThere 21 = .ok (.iload_n 1, 1) := by decide +kernel
theorem dX12_isThere_22 : decode cX12_isThere 22 = .ok (.iaload, 1) := by decide +kernel
theorem dX12_isThere_23 : decode cX12_isThere 23 = .ok (.iaload, 1) := by decide +kernel
theorem dX12_isThere_24 : decode cX12_isThere 24 = .ok (.iload_n 1, 1) := by decide +kernel
theorem dX12_isThere_25 : decode cX12_isThere 25 = .ok (.if_icmp .ne 7, 3) := by decide +kernel
theorem dX12_isThere_28 : decode cX12_isThere 28 = .ok (.iconst 1, 1) := by decide +kernel
theorem dX12_isThere_29 : decode cX12_isThere 29 = .ok (.goto 4, 3) := by decide +kernel
theorem dX12_isThere_32 : decode cX12_isThere 32 = .ok (.iconst 0, 1) := by decide +kernel
theorem dX12_isThere_33 : decode cX12_isThere 33 = .ok (.ireturn, 1) := by decide +kernel
set_option maxRecDepth 20000 in
theorem ggX12_blockOf_X12_isUsed : GoodIn wsX12_blockOf wsX12_isUsed := by first | exact goodIn_sub (show zy_S _ wsX12_blockOf from (zy_c (zy_t (zy_l (zy_t (zy_t (zy_t (zy_t (zy_t (zy_t zy_h)))))))) (zy_a (zy_c (zy_t (zy_l (zy_t zy_h))) (zy_c (zy_t (zy_l (zy_t (zy_t (zy_t (zy_t (zy_t (zy_t (zy_t zy_h))))))))) (zy_c (zy_t (zy_l (zy_t (zy_t (zy_t (zy_t (zy_t (zy_t (zy_t (zy_t zy_h)))))))))) (zy_c (zy_t (zy_l (zy_t (zy_t (zy_t (zy_t (zy_t (zy_t (zy_t (zy_t (zy_t zy_h))))))))))) (zy_c (zy_t (zy_l (zy_t (zy_t (zy_t (zy_t (zy_t zy_h))))))) (zy_c (zy_t (zy_l (zy_t (zy_t (zy_t (zy_t (zy_t (zy_t (zy_t (zy_t (zy_t (zy_t zy_h)))))))))))) (zy_c (zy_t (zy_l (zy_t (zy_t (zy_t (zy_t (zy_t (zy_t (zy_t (zy_t (zy_t (zy_t (zy_t zy_h))))))))))))) (zy_c (zy_t (zy_l (zy_t (zy_t (zy_t (zy_t (zy_t (zy_t (zy_t (zy_t (zy_t (zy_t (zy_t (zy_t zy_h)))))))))))))) (zy_c (zy_t (zy_l (zy_t (zy_t (zy_t (zy_t (zy_t (zy_t (zy_t (zy_t (zy_t (zy_t (zy_t (zy_t (zy_t zy_h))))))))))))))) zy_n))))))))) (zy_p (fun _ h => (zy_t (zy_r h))))))) (by decide +kernel) | exact goodIn_r _ [7, 2, 8, 9, 10, 6, 11, 12, 13, 14, 15, 16, 17, 18, 19, 20, 21, 22, 23, 24, 25, 26, 27, 28, 29, 30, 31, 32, 33, 34, 35, 36, 37, 38, 39, 40, 41, 42, 43, 44, 45, 46, 47, 48, 49, 50] (by decide +kernel) (by decide +kernel)
set_option maxRecDepth 20000 in
theorem gX12_blockOf_X12_isUsed : GoodIn wsX12_blockOf (wsV RX12 175 RX12 yX12_isUsed wsX12_isUsed) := by first | exact goodIn_app (goodIn_sub (show zy_S _ wsX12_blockOf from (zy_c (zy_t (zy_l (zy_t (zy_t zy_h)))) (zy_c (zy_t (zy_l (zy_t (zy_t (zy_t zy_h))))) (zy_c (zy_t (zy_l (zy_t (zy_t (zy_t (zy_t zy_h)))))) (zy_c (zy_t (zy_l (zy_t (zy_t (zy_t (zy_t (zy_t zy_h))))))) zy_n))))) (by decide +kernel)) ggX12_blockOf_X12_isUsed | exact goodIn_app (goodIn_of _ (by decide +kernel)) ggX12_blockOf_X12_isUsed
theorem dX12_blockOf_0 : decode cX12_blockOf 0 = .ok (.aload_n 0, 1) := by decide +kernel
theorem dX12_blockOf_1 : decode cX12_blockOf 1 = .ok (.getfield 13, 3) := by decide +kernel
theorem dX12_blockOf_4 : decode cX12_blockOf 4 = .ok (.ifCond .ge 5, 3) := by decide +kernel
theorem dX12_blockOf_7 : decode cX12_blockOf 7 = .ok (.iconst (-1), 1) := by decide +kernel
theorem dX12_blockOf_8 : decode cX12_blockOf 8 = .ok (.ireturn, 1) := by decide +kernel
theorem dX12_blockOf_9 : decode cX12_blockOf 9 = .ok (.iconst 0, 1) := by decide +kernel
theorem dX12_blockOf_10 : decode cX12_blockOf 10 = .ok (.istore_n 2, 1) := by decide +kernel
theorem dX12_blockOf_11 : decode cX12_blockOf 11 = .ok (.iload_n 2, 1) := by decide +kernel
theorem dX12_blockOf_12 : decode cX12_blockOf 12 = .ok (.sipush 200, 3) := by decide +kernel
theorem dX12_blockOf_15 : decode cX12_blockOf 15 = .ok (.if_icmp .ge 31, 3) := by decide +kernel
theorem dX12_blockOf_18 : decode cX12_blockOf 18 = .ok (.aload_n 0, 1) := by decide +kernel
theorem dX12_blockOf_19 : decode cX12_blockOf 19 = .ok (.getfield 20, 3) := by decide +kernel
theorem dX12_blockOf_22 : decode cX12_blockOf 22 = .ok (.iload_n 2, 1) := by decide +kernel
theorem dX12_blockOf_23 : decode cX12_blockOf 23 = .ok (.iaload, 1) := by decide +kernel
theorem dX12_blockOf_24 : decode cX12_blockOf 24 = .ok (.iload_n 1, 1) := by decide +kernel
theorem dX12_blockOf_25 : decode cX12_blockOf 25 = .ok (.iconst 1, 1) := by decide +kernel
theorem dX12_blockOf_26 : decode cX12_blockOf 26 = .ok (.iadd, 1) := by decide +kernel
theorem dX12_blockOf_27 : decode cX12_blockOf 27 = .ok (.if_icmp .ne 13, 3) := by decide +kernel
theorem dX12_blockOf_30 : decode cX12_blockOf 30 = .ok (.aload_n 0, 1) := by decide +kernel
theorem dX12_blockOf_31 : decode cX12_blockOf 31 = .ok (.iload_n 2, 1) := by decide +kernel
theorem dX12_blockOf_32 : decode cX12_blockOf 32 = .ok (.invokevirtual 175, 3) := by decide +kernel
theorem dX12_blockOf_35 : decode cX12_blockOf 35 = .ok (.ifCond .eq 5, 3) := by decide +kernel
theorem dX12_blockOf_38 : decode cX12_blockOf 38 = .ok (.iload_n 2, 1) := by decide +kernel
theorem dX12_blockOf_39 : decode cX12_blockOf 39 = .ok (.ireturn, 1) := by decide +kernel
theorem dX12_blockOf_40 : decode cX12_blockOf 40 = .ok (.iinc 2 1, 3) := by decide +kernel
theorem dX12_blockOf_43 : decode cX12_blockOf 43 = .ok (.goto (-32), 3) := by decide +kernel
theorem dX12_blockOf_46 : decode cX12_blockOf 46 = .ok (.iconst (-1), 1) := by decide +kernel
theorem dX12_blockOf_47 : decode cX12_blockOf 47 = .ok (.ireturn, 1) := by decide +kernel
set_option maxRecDepth 20000 in
theorem ggX12_back_X12_blockOf : GoodIn wsX12_back wsX12_blockOf := by first | exact goodIn_sub (show zy_S _ wsX12_back from (zy_c (zy_t (zy_l (zy_l (zy_t (zy_t (zy_t (zy_t (zy_t (zy_t (zy_t (zy_t (zy_t (zy_t (zy_t (zy_t (zy_t (zy_t (zy_t zy_h)))))))))))))))))) (zy_a (zy_c (zy_t (zy_l (zy_l zy_h))) (zy_c (zy_t (zy_l (zy_l (zy_t (zy_t (zy_t (zy_t zy_h))))))) (zy_c (zy_t (zy_l (zy_l (zy_t (zy_t (zy_t (zy_t (zy_t (zy_t (zy_t (zy_t (zy_t (zy_t (zy_t (zy_t (zy_t (zy_t (zy_t (zy_t zy_h))))))))))))))))))) (zy_c (zy_t (zy_l (zy_l (zy_t (zy_t (zy_t (zy_t (zy_t (zy_t (zy_t (zy_t (zy_t (zy_t (zy_t (zy_t (zy_t (zy_t (zy_t (zy_t (zy_t zy_h)))))))))))))))))))) (zy_c (zy_t (zy_l (zy_l (zy_t (zy_t (zy_t (zy_t (zy_t (zy_t (zy_t (zy_t (zy_t (zy_t (zy_t (zy_t (zy_t (zy_t (zy_t (zy_t (zy_t (zy_t zy_h))))))))))))))))))))) (zy_c (zy_t (zy_l (zy_l (zy_t (zy_t (zy_t (zy_t (zy_t (zy_t (zy_t (zy_t (zy_t (zy_t (zy_t (zy_t (zy_t (zy_t zy_h))))))))))))))))) (zy_c (zy_t (zy_l (zy_l (zy_t (zy_t (zy_t (zy_t (zy_t (zy_t (zy_t (zy_t (zy_t (zy_t (zy_t (zy_t (zy_t (zy_t (zy_t (zy_t (zy_t (zy_t (zy_t zy_h)))))))))))))))))))))) (zy_c (zy_t (zy_l (zy_l (zy_t (zy_t (zy_t (zy_t (zy_t (zy_t (zy_t (zy_t (zy_t (zy_t (zy_t (zy_t (zy_t (zy_t (zy_t (zy_t (zy_t (zy_t (zy_t (zy_t zy_h))))))))))))))))))))))) (zy_c (zy_t (zy_l (zy_l (zy_t (zy_t (zy_t (zy_t (zy_t (zy_t (zy_t (zy_t (zy_t (zy_t (zy_t (zy_t (zy_t (zy_t (zy_t (zy_t (zy_t (zy_t (zy_t (zy_t (zy_t zy_h)))))))))))))))))))))))) (zy_c (zy_t (zy_l (zy_l (zy_t (zy_t (zy_t (zy_t (zy_t (zy_t (zy_t (zy_t (zy_t (zy_t (zy_t (zy_t (zy_t (zy_t (zy_t (zy_t (zy_t (zy_t (zy_t (zy_t (zy_t (zy_t zy_h))))))))))))))))))))))))) (zy_c (zy_t (zy_l (zy_l (zy_t (zy_t (zy_t (zy_t (zy_t (zy_t (zy_t (zy_t (zy_t (zy_t (zy_t (zy_t (zy_t (zy_t (zy_t (zy_t (zy_t (zy_t (zy_t (zy_t (zy_t (zy_t (zy_t zy_h)))))))))))))))))))))))))) (zy_c (zy_t (zy_l (zy_l (zy_t zy_h)))) (zy_c (zy_t (zy_l (zy_r (zy_l zy_h)))) (zy_c (zy_t (zy_l (zy_l (zy_t (zy_t (zy_t zy_h)))))) zy_n)))))))))))))) (zy_p (fun _ h => (zy_t (zy_r h))))))) (by decide +kernel) | exact goodIn_r _ [16, 1, 5, 17, 18, 19, 15, 20, 21, 22, 23, 24, 2, 25, 4, 75, 76, 77, 78, 79, 80, 81, 82, 83, 84, 85, 86, 87, 88, 89, 90, 91, 92, 93, 94, 95, 96, 97, 98, 99, 100, 101, 102, 103, 104, 105, 106, 107, 108, 109, 110] (by decide +kernel) (by decide +kernel)
set_option maxRecDepth 20000 in
theorem gX12_back_X12_blockOf : GoodIn wsX12_back (wsV RX12 181 RX12 yX12_blockOf wsX12_blockOf) := by first | exact goodIn_app (goodIn_sub (show zy_S _ wsX12_back from (zy_c (zy_t (zy_l (zy_l (zy_t (zy_t (zy_t (zy_t (zy_t (zy_t (zy_t (zy_t (zy_t (zy_t (zy_t zy_h)))))))))))))) (zy_c (zy_t (zy_l (zy_l (zy_t (zy_t (zy_t (zy_t (zy_t (zy_t (zy_t (zy_t (zy_t (zy_t (zy_t (zy_t zy_h))))))))))))))) (zy_c (zy_t (zy_l (zy_l (zy_t (zy_t (zy_t (zy_t (zy_t (zy_t (zy_t (zy_t (zy_t (zy_t (zy_t (zy_t (zy_t zy_h)))))))))))))))) (zy_c (zy_t (zy_l (zy_l (zy_t (zy_t (zy_t (zy_t (zy_t (zy_t (zy_t (zy_t (zy_t (zy_t (zy_t (zy_t (zy_t (zy_t zy_h))))))))))))))))) zy_n))))) (by decide +kernel)) ggX12_back_X12_blockOf | exact goodIn_app (goodIn_of _ (by decide +kernel)) ggX12_back_X12_blockOf
set_option maxRecDepth 20000 in
theorem ggX12_back_X12_fails : GoodIn wsX12_back wsX12_fails := by first | exact goodIn_sub (show zy_S _ wsX12_back from (zy_c (zy_t (zy_l (zy_r (zy_l (zy_t (zy_t (zy_t (zy_t zy_h)))))))) (zy_a (zy_c (zy_t (zy_l (zy_r (zy_l (zy_t (zy_t (zy_t (zy_t (zy_t zy_h))))))))) zy_n) (zy_p (fun _ h => (zy_t (zy_r h))))))) (by decide +kernel) | exact goodIn_r _ [29, 30, 75, 76, 77, 78, 79, 80, 81, 82, 83, 84, 85, 86, 87, 88, 89, 90, 91, 92, 93, 94, 95, 96, 97, 98, 99, 100, 101, 102, 103, 104, 105, 106, 107, 108, 109, 110] (by decide +kernel) (by decide +kernel)
set_option maxRecDepth 20000 in
theorem gX12_back_X12_fails : GoodIn wsX12_back (wsV RX12 72 RX12 yX12_fails wsX12_fails) := by first | exact goodIn_app (goodIn_sub (show zy_S _ wsX12_back from (zy_c (zy_t (zy_l (zy_r (zy_l (zy_t zy_h))))) (zy_c (zy_t (zy_l (zy_r (zy_l (zy_t (zy_t zy_h)))))) (zy_c (zy_t (zy_l (zy_r (zy_l (zy_t (zy_t (zy_t zy_h))))))) (zy_c (zy_t (zy_l (zy_l (zy_t (zy_t (zy_t (zy_t (zy_t (zy_t (zy_t (zy_t (zy_t (zy_t (zy_t (zy_t (zy_t (zy_t zy_h))))))))))))))))) zy_n))))) (by decide +kernel)) ggX12_back_X12_fails | exact goodIn_app (goodIn_of _ (by decide +kernel)) ggX12_back_X12_fails
set_option maxRecDepth 20000 in
theorem ggX12_back_X12_join : GoodIn wsX12_back wsX12_join := by first | exact goodIn_sub (show zy_S _ wsX12_back from (zy_c (zy_t (zy_l (zy_r (zy_l (zy_t (zy_t (zy_t (zy_t (zy_t (zy_t (zy_t (zy_t (zy_t zy_h))))))))))))) (zy_a (zy_c (zy_t (zy_l (zy_r (zy_l (zy_t (zy_t (zy_t (zy_t (zy_t (zy_t (zy_t (zy_t (zy_t (zy_t zy_h)))))))))))))) (zy_c (zy_t (zy_l (zy_r (zy_l (zy_t (zy_t (zy_t (zy_t (zy_t (zy_t (zy_t (zy_t (zy_t (zy_t (zy_t zy_h))))))))))))))) zy_n)) (zy_p (fun _ h => (zy_t (zy_r h))))))) (by decide +kernel) | exact goodIn_r _ [34, 35, 36, 75, 76, 77, 78, 79, 80, 81, 82, 83, 84, 85, 86, 87, 88, 89, 90, 91, 92, 93, 94, 95, 96, 97, 98, 99, 100, 101, 102, 103, 104, 105, 106, 107, 108, 109, 110] (by decide +kernel) (by decide +kernel)
set_option maxRecDepth 20000 in
theorem gX12_back_X12_join : GoodIn wsX12_back (wsV RX12 184 RX12 yX12_join wsX12_join) := by first | exact goodIn_app (goodIn_sub (show zy_S _ wsX12_back from (zy_c (zy_t (zy_l (zy_r (zy_l (zy_t (zy_t (zy_t (zy_t (zy_t (zy_t zy_h)))))))))) (zy_c (zy_t (zy_l (zy_r (zy_l (zy_t (zy_t (zy_t (zy_t (zy_t (zy_t (zy_t zy_h))))))))))) (zy_c (zy_t (zy_l (zy_r (zy_l (zy_t (zy_t (zy_t (zy_t (zy_t (zy_t (zy_t (zy_t zy_h)))))))))))) (zy_c (zy_t (zy_l (zy_l (zy_t (zy_t (zy_t (zy_t (zy_t (zy_t (zy_t (zy_t (zy_t (zy_t (zy_t (zy_t (zy_t (zy_t zy_h))))))))))))))))) zy_n))))) (by decide +kernel)) ggX12_back_X12_join | exact goodIn_app (goodIn_of _ (by decide +kernel)) ggX12_back_X12_join
set_option maxRecDepth 20000 in
theorem ggX12_back_X12_freePages : GoodIn wsX12_back wsX12_freePages := by first | exact goodIn_sub (show zy_S _ wsX12_back from (zy_c (zy_t (zy_l (zy_r (zy_l (zy_t (zy_t (zy_t (zy_t (zy_t (zy_t (zy_t (zy_t (zy_t (zy_t (zy_t (zy_t (zy_t (zy_t (zy_t zy_h))))))))))))))))))) (zy_a (zy_c (zy_t (zy_l (zy_r (zy_l (zy_t (zy_t (zy_t (zy_t (zy_t (zy_t (zy_t (zy_t (zy_t (zy_t (zy_t (zy_t (zy_t (zy_t (zy_t (zy_t zy_h)))))))))))))))))))) (zy_c (zy_t (zy_l (zy_r (zy_l (zy_t (zy_t (zy_t (zy_t (zy_t (zy_t (zy_t (zy_t (zy_t (zy_t (zy_t (zy_t (zy_t (zy_t (zy_t (zy_t (zy_t zy_h))))))))))))))))))))) (zy_c (zy_t (zy_l (zy_r (zy_l (zy_t (zy_t (zy_t (zy_t (zy_t (zy_t (zy_t (zy_t (zy_t (zy_t (zy_t (zy_t (zy_t (zy_t (zy_t (zy_t (zy_t (zy_t zy_h)))))))))))))))))))))) (zy_c (zy_t (zy_l (zy_r (zy_l (zy_t (zy_t (zy_t (zy_t (zy_t (zy_t (zy_t (zy_t (zy_t (zy_t (zy_t (zy_t (zy_t (zy_t (zy_t (zy_t (zy_t (zy_t (zy_t zy_h))))))))))))))))))))))) (zy_c (zy_t (zy_l (zy_l (zy_t (zy_t (zy_t (zy_t (zy_t (zy_t (zy_t (zy_t (zy_t (zy_t (zy_t (zy_t (zy_t (zy_t zy_h))))))))))))))))) (zy_c (zy_t (zy_l (zy_r (zy_l (zy_t (zy_t (zy_t (zy_t (zy_t (zy_t (zy_t (zy_t (zy_t (zy_t (zy_t (zy_t (zy_t (zy_t (zy_t (zy_t (zy_t (zy_t (zy_t (zy_t zy_h)))))))))))))))))))))))) (zy_c (zy_t (zy_l (zy_l (zy_t (zy_t (zy_t zy_h)))))) zy_n))))))) (zy_p (fun _ h => (zy_t (zy_r h))))))) (by decide +kernel) | exact goodIn_r _ [40, 41, 42, 43, 44, 15, 45, 4, 75, 76, 77, 78, 79, 80, 81, 82, 83, 84, 85, 86, 87, 88, 89, 90, 91, 92, 93, 94, 95, 96, 97, 98, 99, 100, 101, 102, 103, 104, 105, 106, 107, 108, 109, 110] (by decide +kernel) (by decide +kernel)
set_option maxRecDepth 20000 in
theorem gX12_back_X12_freePages : GoodIn wsX12_back (wsV RX12 187 RX12 yX12_freePages wsX12_freePages) := by first | exact goodIn_app (goodIn_sub (show zy_S _ wsX12_back from (zy_c (zy_t (zy_l (zy_r (zy_l (zy_t (zy_t (zy_t (zy_t (zy_t (zy_t (zy_t (zy_t (zy_t (zy_t (zy_t (zy_t zy_h)))))))))))))))) (zy_c (zy_t (zy_l (zy_r (zy_l (zy_t (zy_t (zy_t (zy_t (zy_t (zy_t (zy_t (zy_t (zy_t (zy_t (zy_t (zy_t (zy_t zy_h))))))))))))))))) (zy_c (zy_t (zy_l (zy_r (zy_l (zy_t (zy_t (zy_t (zy_t (zy_t (zy_t (zy_t (zy_t (zy_t (zy_t (zy_t (zy_t (zy_t (zy_t zy_h)))))))))))))))))) (zy_c (zy_t (zy_l (zy_l (zy_t (zy_t (zy_t (zy_t (zy_t (zy_t (zy_t (zy_t (zy_t (zy_t (zy_t (zy_t (zy_t (zy_t zy_h))))))))))))))))) zy_n))))) (by decide +kernel)) ggX12_back_X12_freePages | exact goodIn_app (goodIn_of _ (by decide +kernel)) ggX12_back_X12_freePages
set_option maxRecDepth 20000 in
theorem ggX12_back_X12_joinRuns : GoodIn wsX12_back wsX12_joinRuns := by first | exact goodIn_sub (show zy_S _ wsX12_back from (zy_c (zy_t (zy_l (zy_r (zy_r (zy_l zy_h))))) (zy_a (zy_c (zy_t (zy_l (zy_l (zy_t (zy_t (zy_t zy_h)))))) (zy_c (zy_t (zy_l (zy_r (zy_r (zy_l (zy_t zy_h)))))) (zy_c (zy_t (zy_l (zy_r (zy_r (zy_l (zy_t (zy_t zy_h))))))) (zy_c (zy_t (zy_l (zy_r (zy_r (zy_l (zy_t (zy_t (zy_t zy_h)))))))) (zy_c (zy_t (zy_l (zy_l (zy_t (zy_t (zy_t (zy_t (zy_t (zy_t (zy_t (zy_t (zy_t (zy_t (zy_t (zy_t (zy_t (zy_t zy_h))))))))))))))))) (zy_c (zy_t (zy_l (zy_r (zy_r (zy_l (zy_t (zy_t (zy_t (zy_t zy_h))))))))) (zy_c (zy_t (zy_l (zy_r (zy_l zy_h)))) (zy_c (zy_t (zy_l (zy_r (zy_r (zy_l (zy_t (zy_t (zy_t (zy_t (zy_t zy_h)))))))))) (zy_c (zy_t (zy_l (zy_r (zy_r (zy_l (zy_t (zy_t (zy_t (zy_t (zy_t (zy_t zy_h))))))))))) (zy_c (zy_t (zy_l (zy_r (zy_r (zy_l (zy_t (zy_t (zy_t (zy_t (zy_t (zy_t (zy_t zy_h)))))))))))) (zy_c (zy_t (zy_l (zy_r (zy_r (zy_l (zy_t (zy_t (zy_t (zy_t (zy_t (zy_t (zy_t (zy_t zy_h))))))))))))) (zy_c (zy_t (zy_l (zy_r (zy_r (zy_l (zy_t (zy_t (zy_t (zy_t (zy_t (zy_t (zy_t (zy_t (zy_t zy_h)))))))))))))) (zy_c (zy_t (zy_l (zy_r (zy_r (zy_l (zy_t (zy_t (zy_t (zy_t (zy_t (zy_t (zy_t (zy_t (zy_t (zy_t zy_h))))))))))))))) (zy_c (zy_t (zy_l (zy_r (zy_r (zy_l (zy_t (zy_t (zy_t (zy_t (zy_t (zy_t (zy_t (zy_t (zy_t (zy_t (zy_t zy_h)))))))))))))))) (zy_c (zy_t (zy_l (zy_r (zy_r (zy_l (zy_t (zy_t (zy_t (zy_t (zy_t (zy_t (zy_t (zy_t (zy_t (zy_t (zy_t (zy_t zy_h))))))))))))))))) (zy_c (zy_t (zy_l (zy_r (zy_r (zy_l (zy_t (zy_t (zy_t (zy_t (zy_t (zy_t (zy_t (zy_t (zy_t (zy_t (zy_t (zy_t (zy_t zy_h)))))))))))))))))) (zy_c (zy_t (zy_l (zy_r (zy_r (zy_l (zy_t (zy_t (zy_t (zy_t (zy_t (zy_t (zy_t (zy_t (zy_t (zy_t (zy_t (zy_t (zy_t (zy_t zy_h))))))))))))))))))) (zy_c (zy_t (zy_l (zy_r (zy_r (zy_l (zy_t (zy_t (zy_t (zy_t (zy_t (zy_t (zy_t (zy_t (zy_t (zy_t (zy_t (zy_t (zy_t (zy_t (zy_t zy_h)))))))))))))))))))) (zy_c (zy_t (zy_l (zy_r (zy_r (zy_l (zy_t (zy_t (zy_t (zy_t (zy_t (zy_t (zy_t (zy_t (zy_t (zy_t (zy_t (zy_t (zy_t (zy_t (zy_t (zy_t zy_h))))))))))))))))))))) (zy_c (zy_t (zy_l (zy_r (zy_r (zy_l (zy_t (zy_t (zy_t (zy_t (zy_t (zy_t (zy_t (zy_t (zy_t (zy_t (zy_t (zy_t (zy_t (zy_t (zy_t (zy_t (zy_t zy_h)))))))))))))))))))))) zy_n)))))))))))))))))))) (zy_p (fun _ h => (zy_t (zy_r h))))))) (by decide +kernel) | exact goodIn_r _ [49, 4, 50, 51, 52, 15, 53, 25, 54, 55, 56, 57, 58, 59, 60, 61, 62, 63, 64, 65, 66, 75, 76, 77, 78, 79, 80, 81, 82, 83, 84, 85, 86, 87, 88, 89, 90, 91, 92, 93, 94, 95, 96, 97, 98, 99, 100, 101, 102, 103, 104, 105, 106, 107, 108, 109, 110] (by decide +kernel) (by decide +kernel)
set_option maxRecDepth 20000 in
theorem gX12_back_X12_joinRuns : GoodIn wsX12_back (wsV RX12 190 RX12 yX12_joinRuns wsX12_joinRuns) := by first | exact goodIn_app (goodIn_sub (show zy_S _ wsX12_back from (zy_c (zy_t (zy_l (zy_r (zy_l (zy_t (zy_t (zy_t (zy_t (zy_t (zy_t (zy_t (zy_t (zy_t (zy_t (zy_t (zy_t (zy_t (zy_t (zy_t (zy_t (zy_t (zy_t (zy_t (zy_t (zy_t zy_h))))))))))))))))))))))))) (zy_c (zy_t (zy_l (zy_r (zy_l (zy_t (zy_t (zy_t (zy_t (zy_t (zy_t (zy_t (zy_t (zy_t (zy_t (zy_t (zy_t (zy_t (zy_t (zy_t (zy_t (zy_t (zy_t (zy_t (zy_t (zy_t (zy_t zy_h)))))))))))))))))))))))))) (zy_c (zy_t (zy_l (zy_r (zy_l (zy_t (zy_t (zy_t (zy_t (zy_t (zy_t (zy_t (zy_t (zy_t (zy_t (zy_t (zy_t (zy_t (zy_t (zy_t (zy_t (zy_t (zy_t (zy_t (zy_t (zy_t (zy_t (zy_t zy_h))))))))))))))))))))))))))) (zy_c (zy_t (zy_l (zy_l (zy_t (zy_t (zy_t (zy_t (zy_t (zy_t (zy_t (zy_t (zy_t (zy_t (zy_t (zy_t (zy_t (zy_t zy_h))))))))))))))))) zy_n))))) (by decide +kernel)) ggX12_back_X12_joinRuns | exact goodIn_app (goodIn_of _ (by decide +kernel)) ggX12_back_X12_joinRuns
set_option maxRecDepth 20000 in
theorem ggX12_back_X12_sink : GoodIn wsX12_back wsX12_sink := by first | exact goodIn_sub (show zy_S _ wsX12_back from (zy_c (zy_t (zy_l (zy_r (zy_r (zy_l (zy_t (zy_t (zy_t (zy_t (zy_t (zy_t (zy_t (zy_t (zy_t (zy_t (zy_t (zy_t (zy_t (zy_t (zy_t (zy_t (zy_t (zy_t (zy_t (zy_t (zy_t zy_h)))))))))))))))))))))))))) (zy_a (zy_c (zy_t (zy_l (zy_r (zy_r (zy_l (zy_t (zy_t (zy_t (zy_t (zy_t (zy_t (zy_t (zy_t (zy_t (zy_t (zy_t (zy_t (zy_t (zy_t (zy_t (zy_t (zy_t (zy_t (zy_t (zy_t (zy_t (zy_t zy_h))))))))))))))))))))))))))) (zy_c (zy_t (zy_l (zy_r (zy_r (zy_l (zy_t (zy_t (zy_t (zy_t (zy_t (zy_t (zy_t (zy_t (zy_t (zy_t (zy_t (zy_t (zy_t (zy_t (zy_t (zy_t (zy_t (zy_t (zy_t (zy_t (zy_t (zy_t (zy_t zy_h)))))))))))))))))))))))))))) (zy_c (zy_t (zy_l (zy_r (zy_r (zy_r zy_h))))) (zy_c (zy_t (zy_l (zy_r (zy_r (zy_r (zy_t zy_h)))))) zy_n)))) (zy_p (fun _ h => (zy_t (zy_r h))))))) (by decide +kernel) | exact goodIn_r _ [70, 71, 72, 73, 74, 75, 76, 77, 78, 79, 80, 81, 82, 83, 84, 85, 86, 87, 88, 89, 90, 91, 92, 93, 94, 95, 96, 97, 98, 99, 100, 101, 102, 103, 104, 105, 106, 107, 108, 109, 110] (by decide +kernel) (by decide +kernel)
set_option maxRecDepth 20000 in
theorem gX12_back_X12_sink : GoodIn wsX12_back (wsV RX12 193 RX12 yX12_sink wsX12_sink) := by first | exact goodIn_app (goodIn_sub (show zy_S _ wsX12_back from (zy_c (zy_t (zy_l (zy_r (zy_r (zy_l (zy_t (zy_t (zy_t (zy_t (zy_t (zy_t (zy_t (zy_t (zy_t (zy_t (zy_t (zy_t (zy_t (zy_t (zy_t (zy_t (zy_t (zy_t zy_h))))))))))))))))))))))) (zy_c (zy_t (zy_l (zy_r (zy_r (zy_l (zy_t (zy_t (zy_t (zy_t (zy_t (zy_t (zy_t (zy_t (zy_t (zy_t (zy_t (zy_t (zy_t (zy_t (zy_t (zy_t (zy_t (zy_t (zy_t zy_h)))))))))))))))))))))))) (zy_c (zy_t (zy_l (zy_r (zy_r (zy_l (zy_t (zy_t (zy_t (zy_t (zy_t (zy_t (zy_t (zy_t (zy_t (zy_t (zy_t (zy_t (zy_t (zy_t (zy_t (zy_t (zy_t (zy_t (zy_t (zy_t zy_h))))))))))))))))))))))))) (zy_c (zy_t (zy_l (zy_l (zy_t (zy_t (zy_t (zy_t (zy_t (zy_t (zy_t (zy_t (zy_t (zy_t (zy_t (zy_t (zy_t (zy_t zy_h))))))))))))))))) zy_n))))) (by decide +kernel)) ggX12_back_X12_sink | exact goodIn_app (goodIn_of _ (by decide +kernel)) ggX12_back_X12_sink
theorem dX12_back_0 : decode cX12_back 0 = .ok (.aload_n 0, 1) := by decide +kernel
theorem dX12_back_1 : decode cX12_back 1 = .ok (.iload_n 1, 1) := by decide +kernel
theorem dX12_back_2 : decode cX12_back 2 = .ok (.invokevirtual 181, 3) := by decide +kernel
theorem dX12_back_5 : decode cX12_back 5 = .ok (.istore_n 2, 1) := by decide +kernel
theorem dX12_back_6 : decode cX12_back 6 = .ok (.aload_n 0, 1) := by decide +kernel
theorem dX12_back_7 : decode cX12_back 7 = .ok (.aload_n 0, 1) := by decide +kernel
theorem dX12_back_8 : decode cX12_back 8 = .ok (.getfield 13, 3) := by decide +kernel
theorem dX12_back_11 : decode cX12_back 11 = .ok (.ifCond .ge 7, 3) := by decide +kernel
theorem dX12_back_14 : decode cX12_back 14 = .ok (.iconst 1, 1) := by decide +kernel
theorem dX12_back_15 : decode cX12_back 15 = .ok (.goto 16, 3) := by decide +kernel
theorem dX12_back_18 : decode cX12_back 18 = .ok (.iload_n 2, 1) := by decide +kernel
theorem dX12_back_19 : decode cX12_back 19 = .ok (.ifCond .lt 7, 3) := by decide +kernel
theorem dX12_back_22 : decode cX12_back 22 = .ok (.iload_n 1, 1) := by decide +kernel
theorem dX12_back_23 : decode cX12_back 23 = .ok (.ifCond .ge 7, 3) := by decide +kernel
theorem dX12_back_26 : decode cX12_back 26 = .ok (.iconst 2, 1) := by decide +kernel
theorem dX12_back_27 : decode cX12_back 27 = .ok (.goto 4, 3) := by decide +kernel
theorem dX12_back_30 : decode cX12_back 30 = .ok (.iconst 0, 1) := by decide +kernel
theorem dX12_back_31 : decode cX12_back 31 = .ok (.invokevirtual 72, 3) := by decide +kernel
theorem dX12_back_34 : decode cX12_back 34 = .ok (.ifCond .eq 5, 3) := by decide +kernel
theorem dX12_back_37 : decode cX12_back 37 = .ok (.iconst 0, 1) := by decide +kernel
theorem dX12_back_38 : decode cX12_back 38 = .ok (.ireturn, 1) := by decide +kernel
theorem dX12_back_39 : decode cX12_back 39 = .ok (.aload_n 0, 1) := by decide +kernel
theorem dX12_back_40 : decode cX12_back 40 = .ok (.getfield 23, 3) := by decide +kernel
theorem dX12_back_43 : decode cX12_back 43 = .ok (.iload_n 2, 1) := by decide +kernel
theorem dX12_back_44 : decode cX12_back 44 = .ok (.iaload, 1) := by decide +kernel
theorem dX12_back_45 : decode cX12_back 45 = .ok (.istore_n 3, 1) := by decide +kernel
theorem dX12_back_46 : decode cX12_back 46 = .ok (.aload_n 0, 1) := by decide +kernel
theorem dX12_back_47 : decode cX12_back 47 = .ok (.getfield 26, 3) := by decide +kernel
theorem dX12_back_50 : decode cX12_back 50 = .ok (.iload_n 2, 1) := by decide +kernel
theorem dX12_back_51 : decode cX12_back 51 = .ok (.iaload, 1) := by decide +kernel
theorem dX12_back_52 : decode cX12_back 52 = .ok (.istore 4, 2) := by decide +kernel
theorem dX12_back_54 : decode cX12_back 54 = .ok (.aload_n 0, 1) := by decide +kernel
theorem dX12_back_55 : decode cX12_back 55 = .ok (.getfield 13, 3) := by decide +kernel
theorem dX12_back_58 : decode cX12_back 58 = .ok (.bipush 9, 2) := by decide +kernel
theorem dX12_back_60 : decode cX12_back 60 = .ok (.if_icmp .ne 14, 3) := by decide +kernel
theorem dX12_back_63 : decode cX12_back 63 = .ok (.iload 4, 2) := by decide +kernel
theorem dX12_back_65 : decode cX12_back 65 = .ok (.bipush 8, 2) := by decide +kernel
theorem dX12_back_67 : decode cX12_back 67 = .ok (.if_icmp .gt 7, 3) := by decide +kernel
theorem dX12_back_70 : decode cX12_back 70 = .ok (.iconst 1, 1) := by decide +kernel
theorem dX12_back_71 : decode cX12_back 71 = .ok (.goto 4, 3) := by decide +kernel
theorem dX12_back_74 : decode cX12_back 74 = .ok (.iconst 0, 1) := by decide +kernel
theorem dX12_back_75 : decode cX12_back 75 = .ok (.istore 5, 2) := by decide +kernel
theorem dX12_back_77 : decode cX12_back 77 = .ok (.iload_n 3, 1) := by decide +kernel
theorem dX12_back_78 : decode cX12_back 78 = .ok (.istore 6, 2) := by decide +kernel
theorem dX12_back_80 : decode cX12_back 80 = .ok (.iload 6, 2) := by decide +kernel
theorem dX12_back_82 : decode cX12_back 82 = .ok (.iload_n 3, 1) := by decide +kernel
theorem dX12_back_83 : decode cX12_back 83 = .ok (.iload 4, 2) := by decide +kernel
theorem dX12_back_85 : decode cX12_back 85 = .ok (.iadd, 1) := by decide +kernel
theorem dX12_back_86 : decode cX12_back 86 = .ok (.if_icmp .ge 27, 3) := by decide +kernel
theorem dX12_back_89 : decode cX12_back 89 = .ok (.aload_n 0, 1) := by decide +kernel
theorem dX12_back_90 : decode cX12_back 90 = .ok (.getfield 16, 3) := by decide +kernel
theorem dX12_back_93 : decode cX12_back 93 = .ok (.iload 6, 2) := by decide +kernel
theorem dX12_back_95 : decode cX12_back 95 = .ok (.iload 5, 2) := by decide +kernel
theorem dX12_back_97 : decode cX12_back 97 = .ok (.ifCond .eq 8, 3) := by decide +kernel
theorem dX12_back_100 : decode cX12_back 100 = .ok (.bipush (-2), 2) := by decide +kernel
theorem dX12_back_102 : decode cX12_back 102 = .ok (.goto 4, 3) := by decide +kernel
theorem dX12_back_105 : decode cX12_back 105 = .ok (.iconst (-1), 1) := by decide +kernel
theorem dX12_back_106 : decode cX12_back 106 = .ok (.iastore, 1) := by decide +kernel
theorem dX12_back_107 : decode cX12_back 107 = .ok (.iinc 6 1, 3) := by decide +kernel
theorem dX12_back_110 : decode cX12_back 110 = .ok (.goto (-30), 3) := by decide +kernel
theorem dX12_back_113 : decode cX12_back 113 = .ok (.aload_n 0, 1) := by decide +kernel
theorem dX12_back_114 : decode cX12_back 114 = .ok (.getfield 20, 3) := by decide +kernel
theorem dX12_back_117 : decode cX12_back 117 = .ok (.iload_n 2, 1) := by decide +kernel
theorem dX12_back_118 : decode cX12_back 118 = .ok (.iconst 0, 1) := by decide +kernel
theorem dX12_back_119 : decode cX12_back 119 = .ok (.iastore, 1) := by decide +kernel
theorem dX12_back_120 : decode cX12_back 120 = .ok (.aload_n 0, 1) := by decide +kernel
theorem dX12_back_121 : decode cX12_back 121 = .ok (.dup, 1) := by decide +kernel
theorem dX12_back_122 : decode cX12_back 122 = .ok (.getfield 79, 3) := by decide +kernel
theorem dX12_back_125 : decode cX12_back 125 = .ok (.iconst 1, 1) := by decide +kernel
theorem dX12_back_126 : decode cX12_back 126 = .ok (.isub, 1) := by decide +kernel
theorem dX12_back_127 : decode cX12_back 127 = .ok (.putfield 79, 3) := by decide +kernel
theorem dX12_back_130 : decode cX12_back 130 = .ok (.aload_n 0, 1) := by decide +kernel
theorem dX12_back_131 : decode cX12_back 131 = .ok (.dup, 1) := by decide +kernel
theorem dX12_back_132 : decode cX12_back 132 = .ok (.getfield 85, 3) := by decide +kernel
theorem dX12_back_135 : decode cX12_back 135 = .ok (.aload_n 0, 1) := by decide +kernel
theorem dX12_back_136 : decode cX12_back 136 = .ok (.getfield 29, 3) := by decide +kernel
theorem dX12_back_139 : decode cX12_back 139 = .ok (.iload_n 2, 1) := by decide +kernel
theorem dX12_back_140 : decode cX12_back 140 = .ok (.iaload, 1) := by decide +kernel
theorem dX12_back_141 : decode cX12_back 141 = .ok (.isub, 1) := by decide +kernel
theorem dX12_back_142 : decode cX12_back 142 = .ok (.putfield 85, 3) := by decide +kernel
theorem dX12_back_145 : decode cX12_back 145 = .ok (.aload_n 0, 1) := by decide +kernel
theorem dX12_back_146 : decode cX12_back 146 = .ok (.dup, 1) := by decide +kernel
theorem dX12_back_147 : decode cX12_back 147 = .ok (.getfield 88, 3) := by decide +kernel
theorem dX12_back_150 : decode cX12_back 150 = .ok (.iload 4, 2) := by decide +kernel
theorem dX12_back_152 : decode cX12_back 152 = .ok (.isub, 1) := by decide +kernel
theorem dX12_back_153 : decode cX12_back 153 = .ok (.putfield 88, 3) := by decide +kernel
theorem dX12_back_156 : decode cX12_back 156 = .ok (.aload_n 0, 1) := by decide +kernel
theorem dX12_back_157 : decode cX12_back 157 = .ok (.getfield 13, 3) := by decide +kernel
theorem dX12_back_160 : decode cX12_back 160 = .ok (.tableswitch 74 4 8 #[36, 46, 74, 56, 66], 36) := by decide +kernel
theorem dX12_back_196 : decode cX12_back 196 = .ok (.aload_n 0, 1) := by decide +kernel
theorem dX12_back_197 : decode cX12_back 197 = .ok (.iload_n 3, 1) := by decide +kernel
theorem dX12_back_198 : decode cX12_back 198 = .ok (.iload 4, 2) := by decide +kernel
theorem dX12_back_200 : decode cX12_back 200 = .ok (.invokevirtual 184, 3) := by decide +kernel
theorem dX12_back_203 : decode cX12_back 203 = .ok (.goto 31, 3) := by decide +kernel
theorem dX12_back_206 : decode cX12_back 206 = .ok (.aload_n 0, 1) := by decide +kernel
theorem dX12_back_207 : decode cX12_back 207 = .ok (.iload_n 3, 1) := by decide +kernel
theorem dX12_back_208 : decode cX12_back 208 = .ok (.iload 4, 2) := by decide +kernel
theorem dX12_back_210 : decode cX12_back 210 = .ok (.invokevirtual 187, 3) := by decide +kernel
theorem dX12_back_213 : decode cX12_back 213 = .ok (.goto 21, 3) := by decide +kernel
theorem dX12_back_216 : decode cX12_back 216 = .ok (.aload_n 0, 1) := by decide +kernel
theorem dX12_back_217 : decode cX12_back 217 = .ok (.iload_n 3, 1) := by decide +kernel
theorem dX12_back_218 : decode cX12_back 218 = .ok (.iload 4, 2) := by decide +kernel
theorem dX12_back_220 : decode cX12_back 220 = .ok (.invokevirtual 190, 3) := by decide +kernel
theorem dX12_back_223 : decode cX12_back 223 = .ok (.goto 11, 3) := by decide +kernel
theorem dX12_back_226 : decode cX12_back 226 = .ok (.aload_n 0, 1) := by decide +kernel
theorem dX12_back_227 : decode cX12_back 227 = .ok (.iload_n 3, 1) := by decide +kernel
theorem dX12_back_228 : decode cX12_back 228 = .ok (.invokevirtual 193, 3) := by decide +kernel
theorem dX12_back_231 : decode cX12_back 231 = .ok (.goto 3, 3) := by decide +kernel
theorem dX12_back_234 : decode cX12_back 234 = .ok (.iload 5, 2) := by decide +kernel
theorem dX12_back_236 : decode cX12_back 236 = .ok (.ifCond .eq 76, 3) := by decide +kernel
theorem dX12_back_239 : decode cX12_back 239 = .ok (.aload_n 0, 1) := by decide +kernel
theorem dX12_back_240 : decode cX12_back 240 = .ok (.getfield 58, 3) := by decide +kernel
theorem dX12_back_243 : decode cX12_back 243 = .ok (.iload 4, 2) := by decide +kernel
theorem dX12_back_245 : decode cX12_back 245 = .ok (.iaload, 1) := by decide +kernel
theorem dX12_back_246 : decode cX12_back 246 = .ok (.istore 6, 2) := by decide +kernel
theorem dX12_back_248 : decode cX12_back 248 = .ok (.iload 6, 2) := by decide +kernel
theorem dX12_back_250 : decode cX12_back 250 = .ok (.ifCond .le 39, 3) := by decide +kernel
theorem dX12_back_253 : decode cX12_back 253 = .ok (.aload_n 0, 1) := by decide +kernel
theorem dX12_back_254 : decode cX12_back 254 = .ok (.getfield 55, 3) := by decide +kernel
theorem dX12_back_257 : decode cX12_back 257 = .ok (.iload 4, 2) := by decide +kernel
theorem dX12_back_259 : decode cX12_back 259 = .ok (.sipush 1024, 3) := by decide +kernel
theorem dX12_back_262 : decode cX12_back 262 = .ok (.imul, 1) := by decide +kernel
theorem dX12_back_263 : decode cX12_back 263 = .ok (.iload 6, 2) := by decide +kernel
theorem dX12_back_265 : decode cX12_back 265 = .ok (.iadd, 1) := by decide +kernel
theorem dX12_back_266 : decode cX12_back 266 = .ok (.aload_n 0, 1) := by decide +kernel
theorem dX12_back_267 : decode cX12_back 267 = .ok (.getfield 55, 3) := by decide +kernel
theorem dX12_back_270 : decode cX12_back 270 = .ok (.iload 4, 2) := by decide +kernel
theorem dX12_back_272 : decode cX12_back 272 = .ok (.sipush 1024, 3) := by decide +kernel
theorem dX12_back_275 : decode cX12_back 275 = .ok (.imul, 1) := by decide +kernel
theorem dX12_back_276 : decode cX12_back 276 = .ok (.iload 6, 2) := by decide +kernel
theorem dX12_back_278 : decode cX12_back 278 = .ok (.iadd, 1) := by decide +kernel
theorem dX12_back_279 : decode cX12_back 279 = .ok (.iconst 1, 1) := by decide +kernel
theorem dX12_back_280 : decode cX12_back 280 = .ok (.isub, 1) := by decide +kernel
theorem dX12_back_281 : decode cX12_back 281 = .ok (.iaload, 1) := by decide +kernel
theorem dX12_back_282 : decode cX12_back 282 = .ok (.iastore, 1) := by decide +kernel
theorem dX12_back_283 : decode cX12_back 283 = .ok (.iinc 6 (-1), 3) := by decide +kernel
theorem dX12_back_286 : decode cX12_back 286 = .ok (.goto (-38), 3) := by decide +kernel
theorem dX12_back_289 : decode cX12_back 289 = .ok (.aload_n 0, 1) := by decide +kernel
theorem dX12_back_290 : decode cX12_back 290 = .ok (.getfield 55, 3) := by decide +kernel
theorem dX12_back_293 : decode cX12_back 293 = .ok (.iload 4, 2) := by decide +kernel
theorem dX12_back_295 : decode cX12_back 295 = .ok (.sipush 1024, 3) := by decide +kernel
theorem dX12_back_298 : decode cX12_back 298 = .ok (.imul, 1) := by decide +kernel
theorem dX12_back_299 : decode cX12_back 299 = .ok (.iload_n 3, 1) := by decide +kernel
theorem dX12_back_300 : decode cX12_back 300 = .ok (.iastore, 1) := by decide +kernel
theorem dX12_back_301 : decode cX12_back 301 = .ok (.aload_n 0, 1) := by decide +kernel
theorem dX12_back_302 : decode cX12_back 302 = .ok (.getfield 58, 3) := by decide +kernel
theorem dX12_back_305 : decode cX12_back 305 = .ok (.iload 4, 2) := by decide +kernel
theorem dX12_back_307 : decode cX12_back 307 = .ok (.dup2, 1) := by decide +kernel
theorem dX12_back_308 : decode cX12_back 308 = .ok (.iaload, 1) := by decide +kernel
theorem dX12_back_309 : decode cX12_back 309 = .ok (.iconst 1, 1) := by decide +kernel
theorem dX12_back_310 : decode cX12_back 310 = .ok (.iadd, 1) := by decide +kernel
theorem dX12_back_311 : decode cX12_back 311 = .ok (.iastore, 1) := by decide +kernel
theorem dX12_back_312 : decode cX12_back 312 = .ok (.iload_n 3, 1) := by decide +kernel
theorem dX12_back_313 : decode cX12_back 313 = .ok (.ireturn, 1) := by decide +kernel
set_option maxRecDepth 20000 in
theorem ggX12_freePages_X12_isFree : GoodIn wsX12_freePages wsX12_isFree := by first | exact goodIn_sub (show zy_S _ wsX12_freePages from (zy_c (zy_t (zy_l (zy_t (zy_t (zy_t (zy_t (zy_t zy_h))))))) (zy_a (zy_c (zy_t (zy_l (zy_t (zy_t (zy_t (zy_t (zy_t (zy_t zy_h)))))))) zy_n) (zy_p (fun _ h => (zy_t (zy_r h))))))) (by decide +kernel) | exact goodIn_r _ [6, 7, 8, 9, 10, 11, 12, 13, 14, 15, 16, 17, 18, 19, 20, 21, 22, 23, 24, 25, 26, 27, 28, 29, 30, 31, 32, 33, 34, 35, 36, 37, 38, 39, 40, 41, 42, 43] (by decide +kernel) (by decide +kernel)
set_option maxRecDepth 20000 in
theorem gX12_freePages_X12_isFree : GoodIn wsX12_freePages (wsV RX12 120 RX12 yX12_isFree wsX12_isFree) := by first | exact goodIn_app (goodIn_sub (show zy_S _ wsX12_freePages from (zy_c (zy_t (zy_l (zy_t zy_h))) (zy_c (zy_t (zy_l (zy_t (zy_t zy_h)))) (zy_c (zy_t (zy_l (zy_t (zy_t (zy_t zy_h))))) (zy_c (zy_t (zy_l (zy_t (zy_t (zy_t (zy_t zy_h)))))) zy_n))))) (by decide +kernel)) ggX12_freePages_X12_isFree | exact goodIn_app (goodIn_of _ (by decide +kernel)) ggX12_freePages_X12_isFree
theorem dX12_freePages_0 : decode cX12_freePages 0 = .ok (.iload_n 2, 1) := by decide +kernel
theorem dX12_freePages_1 : decode cX12_freePages 1 = .ok (.bipush 32, 2) := by decide +kernel
theorem dX12_freePages_3 : decode cX12_freePages 3 = .ok (.if_icmp .le 34, 3) := by decide +kernel
theorem dX12_freePages_6 : decode cX12_freePages 6 = .ok (.iload_n 1, 1) := by decide +kernel
theorem dX12_freePages_7 : decode cX12_freePages 7 = .ok (.bipush 32, 2) := by decide +kernel
theorem dX12_freePages_9 : decode cX12_freePages 9 = .ok (.idiv, 1) := by decide +kernel
theorem dX12_freePages_10 : decode cX12_freePages 10 = .ok (.istore_n 3, 1) := by decide +kernel
theorem dX12_freePages_11 : decode cX12_freePages 11 = .ok (.iload_n 3, 1) := by decide +kernel
theorem dX12_freePages_12 : decode cX12_freePages 12 = .ok (.iload_n 1, 1) := by decide +kernel
theorem dX12_freePages_13 : decode cX12_freePages 13 = .ok (.iload_n 2, 1) := by decide +kernel
theorem dX12_freePages_14 : decode cX12_freePages 14 = .ok (.iadd, 1) := by decide +kernel
theorem dX12_freePages_15 : decode cX12_freePages 15 = .ok (.bipush 32, 2) := by decide +kernel
theorem dX12_freePages_17 : decode cX12_freePages 17 = .ok (.idiv, 1) := by decide +kernel
theorem dX12_freePages_18 : decode cX12_freePages 18 = .ok (.if_icmp .ge 16, 3) := by decide +kernel
theorem dX12_freePages_21 : decode cX12_freePages 21 = .ok (.aload_n 0, 1) := by decide +kernel
theorem dX12_freePages_22 : decode cX12_freePages 22 = .ok (.getfield 35, 3) := by decide +kernel
theorem dX12_freePages_25 : decode cX12_freePages 25 = .ok (.iload_n 3, 1) := by decide +kernel
theorem dX12_freePages_26 : decode cX12_freePages 26 = .ok (.iconst 0, 1) := by decide +kernel
theorem dX12_freePages_27 : decode cX12_freePages 27 = .ok (.iastore, 1) := by decide +kernel
theorem dX12_freePages_28 : decode cX12_freePages 28 = .ok (.iinc 3 1, 3) := by decide +kernel
theorem dX12_freePages_31 : decode cX12_freePages 31 = .ok (.goto (-20), 3) := by decide +kernel
theorem dX12_freePages_34 : decode cX12_freePages 34 = .ok (.goto 29, 3) := by decide +kernel
theorem dX12_freePages_37 : decode cX12_freePages 37 = .ok (.aload_n 0, 1) := by decide +kernel
theorem dX12_freePages_38 : decode cX12_freePages 38 = .ok (.iload_n 1, 1) := by decide +kernel
theorem dX12_freePages_39 : decode cX12_freePages 39 = .ok (.bipush 32, 2) := by decide +kernel
theorem dX12_freePages_41 : decode cX12_freePages 41 = .ok (.idiv, 1) := by decide +kernel
theorem dX12_freePages_42 : decode cX12_freePages 42 = .ok (.bipush 32, 2) := by decide +kernel
theorem dX12_freePages_44 : decode cX12_freePages 44 = .ok (.imul, 1) := by decide +kernel
theorem dX12_freePages_45 : decode cX12_freePages 45 = .ok (.bipush 32, 2) := by decide +kernel
theorem dX12_freePages_47 : decode cX12_freePages 47 = .ok (.invokevirtual 120, 3) := by decide +kernel
theorem dX12_freePages_50 : decode cX12_freePages 50 = .ok (.ifCond .eq 13, 3) := by decide +kernel
theorem dX12_freePages_53 : decode cX12_freePages 53 = .ok (.aload_n 0, 1) := by decide +kernel
theorem dX12_freePages_54 : decode cX12_freePages 54 = .ok (.getfield 35, 3) := by decide +kernel
theorem dX12_freePages_57 : decode cX12_freePages 57 = .ok (.iload_n 1, 1) := by decide +kernel
theorem dX12_freePages_58 : decode cX12_freePages 58 = .ok (.bipush 32, 2) := by decide +kernel
theorem dX12_freePages_60 : decode cX12_freePages 60 = .ok (.idiv, 1) := by decide +kernel
theorem dX12_freePages_61 : decode cX12_freePages 61 = .ok (.iconst 0, 1) := by decide +kernel
theorem dX12_freePages_62 : decode cX12_freePages 62 = .ok (.iastore, 1) := by decide +kernel
theorem dX12_freePages_63 : decode cX12_freePages 63 = .ok (.return_, 1) := by decide +kernel
theorem dX12_sink_0 : decode cX12_sink 0 = .ok (.iconst 0, 1) := by decide +kernel
theorem dX12_sink_1 : decode cX12_sink 1 = .ok (.istore_n 2, 1) := by decide +kernel
theorem dX12_sink_2 : decode cX12_sink 2 = .ok (.iload_n 2, 1) := by decide +kernel
theorem dX12_sink_3 : decode cX12_sink 3 = .ok (.aload_n 0, 1) := by decide +kernel
theorem dX12_sink_4 : decode cX12_sink 4 = .ok (.getfield 100, 3) := by decide +kernel
theorem dX12_sink_7 : decode cX12_sink 7 = .ok (.if_icmp .ge 26, 3) := by decide +kernel
theorem dX12_sink_10 : decode cX12_sink 10 = .ok (.aload_n 0, 1) := by decide +kernel
theorem dX12_sink_11 : decode cX12_sink 11 = .ok (.getfield 45, 3) := by decide +kernel
theorem dX12_sink_14 : decode cX12_sink 14 = .ok (.iload_n 2, 1) := by decide +kernel
theorem dX12_sink_15 : decode cX12_sink 15 = .ok (.iaload, 1) := by decide +kernel
theorem dX12_sink_16 : decode cX12_sink 16 = .ok (.iload_n 1, 1) := by decide +kernel
theorem dX12_sink_17 : decode cX12_sink 17 = .ok (.if_icmp .ne 10, 3) := by decide +kernel
theorem dX12_sink_20 : decode cX12_sink 20 = .ok (.aload_n 0, 1) := by decide +kernel
theorem dX12_sink_21 : decode cX12_sink 21 = .ok (.getfield 51, 3) := by decide +kernel
theorem dX12_sink_24 : decode cX12_sink 24 = .ok (.iload_n 2, 1) := by decide +kernel
theorem dX12_sink_25 : decode cX12_sink 25 = .ok (.iconst 1, 1) := by decide +kernel
theorem dX12_sink_26 : decode cX12_sink 26 = .ok (.bastore, 1) := by decide +kernel
theorem dX12_sink_27 : decode cX12_sink 27 = .ok (.iinc 2 1, 3) := by decide +kernel
theorem dX12_sink_30 : decode cX12_sink 30 = .ok (.goto (-28), 3) := by decide +kernel
theorem dX12_sink_33 : decode cX12_sink 33 = .ok (.aload_n 0, 1) := by decide +kernel
theorem dX12_sink_34 : decode cX12_sink 34 = .ok (.getfield 100, 3) := by decide +kernel
theorem dX12_sink_37 : decode cX12_sink 37 = .ok (.ifCond .le 43, 3) := by decide +kernel
theorem dX12_sink_40 : decode cX12_sink 40 = .ok (.aload_n 0, 1) := by decide +kernel
theorem dX12_sink_41 : decode cX12_sink 41 = .ok (.getfield 51, 3) := by decide +kernel
theorem dX12_sink_44 : decode cX12_sink 44 = .ok (.aload_n 0, 1) := by decide +kernel
theorem dX12_sink_45 : decode cX12_sink 45 = .ok (.getfield 100, 3) := by decide +kernel
theorem dX12_sink_48 : decode cX12_sink 48 = .ok (.iconst 1, 1) := by decide +kernel
theorem dX12_sink_49 : decode cX12_sink 49 = .ok (.isub, 1) := by decide +kernel
theorem dX12_sink_50 : decode cX12_sink 50 = .ok (.baload, 1) := by decide +kernel
theorem dX12_sink_51 : decode cX12_sink 51 = .ok (.ifCond .eq 29, 3) := by decide +kernel
theorem dX12_sink_54 : decode cX12_sink 54 = .ok (.aload_n 0, 1) := by decide +kernel
theorem dX12_sink_55 : decode cX12_sink 55 = .ok (.dup, 1) := by decide +kernel
theorem dX12_sink_56 : decode cX12_sink 56 = .ok (.getfield 100, 3) := by decide +kernel
theorem dX12_sink_59 : decode cX12_sink 59 = .ok (.iconst 1, 1) := by decide +kernel
theorem dX12_sink_60 : decode cX12_sink 60 = .ok (.isub, 1) := by decide +kernel
theorem dX12_sink_61 : decode cX12_sink 61 = .ok (.putfield 100, 3) := by decide +kernel
theorem dX12_sink_64 : decode cX12_sink 64 = .ok (.aload_n 0, 1) := by decide +kernel
theorem dX12_sink_65 : decode cX12_sink 65 = .ok (.aload_n 0, 1) := by decide +kernel
theorem dX12_sink_66 : decode cX12_sink 66 = .ok (.getfield 45, 3) := by decide +kernel
theorem dX12_sink_69 : decode cX12_sink 69 = .ok (.aload_n 0, 1) := by decide +kernel
theorem dX12_sink_70 : decode cX12_sink 70 = .ok (.getfield 100, 3) := by decide +kernel
theorem dX12_sink_73 : decode cX12_sink 73 = .ok (.iaload, 1) := by decide +kernel
theorem dX12_sink_74 : decode cX12_sink 74 = .ok (.putfield 97, 3) := by decide +kernel
theorem dX12_sink_77 : decode cX12_sink 77 = .ok (.goto (-44), 3) := by decide +kernel
theorem dX12_sink_80 : decode cX12_sink 80 = .ok (.return_, 1) := by decide +kernel
set_option maxRecDepth 20000 in
theorem ggX12_about_X12_blockOf : GoodIn wsX12_about wsX12_blockOf := by first | exact goodIn_sub (show zy_S _ wsX12_about from (zy_c (zy_t (zy_l (zy_l (zy_t (zy_t (zy_t (zy_t (zy_t (zy_t (zy_t (zy_t zy_h))))))))))) (zy_a (zy_c (zy_t (zy_l (zy_l zy_h))) (zy_c (zy_t (zy_l (zy_l (zy_t (zy_t (zy_t (zy_t (zy_t (zy_t (zy_t (zy_t (zy_t zy_h)))))))))))) (zy_c (zy_t (zy_l (zy_l (zy_t (zy_t (zy_t (zy_t (zy_t (zy_t (zy_t (zy_t (zy_t (zy_t zy_h))))))))))))) (zy_c (zy_t (zy_l (zy_l (zy_t (zy_t (zy_t (zy_t (zy_t (zy_t (zy_t (zy_t (zy_t (zy_t (zy_t zy_h)))))))))))))) (zy_c (zy_t (zy_l (zy_l (zy_t (zy_t (zy_t (zy_t (zy_t (zy_t (zy_t (zy_t (zy_t (zy_t (zy_t (zy_t zy_h))))))))))))))) (zy_c (zy_t (zy_l (zy_l (zy_t (zy_t (zy_t (zy_t (zy_t (zy_t (zy_t zy_h)))))))))) (zy_c (zy_t (zy_l (zy_l (zy_t (zy_t (zy_t (zy_t (zy_t (zy_t (zy_t (zy_t (zy_t (zy_t (zy_t (zy_t (zy_t zy_h)))))))))))))))) (zy_c (zy_t (zy_l (zy_l (zy_t (zy_t (zy_t (zy_t (zy_t (zy_t (zy_t (zy_t (zy_t (zy_t (zy_t (zy_t (zy_t (zy_t zy_h))))))))))))))))) (zy_c (zy_t (zy_l (zy_l (zy_t (zy_t (zy_t (zy_t (zy_t (zy_t (zy_t (zy_t (zy_t (zy_t (zy_t (zy_t (zy_t (zy_t (zy_t zy_h)))))))))))))))))) (zy_c (zy_t (zy_l (zy_l (zy_t (zy_t (zy_t (zy_t (zy_t (zy_t (zy_t (zy_t (zy_t (zy_t (zy_t (zy_t (zy_t (zy_t (zy_t (zy_t zy_h))))))))))))))))))) (zy_c (zy_t (zy_l (zy_l (zy_t (zy_t (zy_t (zy_t (zy_t (zy_t (zy_t (zy_t (zy_t (zy_t (zy_t (zy_t (zy_t (zy_t (zy_t (zy_t (zy_t zy_h)))))))))))))))))))) (zy_c (zy_t (zy_l (zy_l (zy_t zy_h)))) (zy_c (zy_t (zy_l (zy_l (zy_t (zy_t (zy_t (zy_t (zy_t (zy_t (zy_t (zy_t (zy_t (zy_t (zy_t (zy_t (zy_t (zy_t (zy_t (zy_t (zy_t (zy_t zy_h))))))))))))))))))))) (zy_c (zy_t (zy_l (zy_l (zy_t (zy_t (zy_t (zy_t (zy_t (zy_t (zy_t (zy_t (zy_t (zy_t (zy_t (zy_t (zy_t (zy_t (zy_t (zy_t (zy_t (zy_t (zy_t zy_h)))))))))))))))))))))) zy_n)))))))))))))) (zy_p (fun _ h => (zy_t (zy_r h))))))) (by decide +kernel) | exact goodIn_r _ [9, 1, 10, 11, 12, 13, 8, 14, 15, 16, 17, 18, 2, 19, 20, 26, 27, 28, 29, 30, 31, 32, 33, 34, 35, 36, 37, 38, 39, 40, 41, 42, 43, 44, 45, 46, 47, 48, 49, 50, 51, 52, 53, 54, 55, 56, 57, 58, 59, 60, 61] (by decide +kernel) (by decide +kernel)
set_option maxRecDepth 20000 in
theorem gX12_about_X12_blockOf : GoodIn wsX12_about (wsV RX12 181 RX12 yX12_blockOf wsX12_blockOf) := by first | exact goodIn_app (goodIn_sub (show zy_S _ wsX12_about from (zy_c (zy_t (zy_l (zy_l (zy_t (zy_t (zy_t (zy_t zy_h))))))) (zy_c (zy_t (zy_l (zy_l (zy_t (zy_t (zy_t (zy_t (zy_t zy_h)))))))) (zy_c (zy_t (zy_l (zy_l (zy_t (zy_t (zy_t (zy_t (zy_t (zy_t zy_h))))))))) (zy_c (zy_t (zy_l (zy_l (zy_t (zy_t (zy_t (zy_t (zy_t (zy_t (zy_t zy_h)))))))))) zy_n))))) (by decide +kernel)) ggX12_about_X12_blockOf | exact goodIn_app (goodIn_of _ (by decide +kernel)) ggX12_about_X12_blockOf
set_option maxRecDepth 20000 in
theorem ggX12_about_X12_fails : GoodIn wsX12_about wsX12_fails := by first | exact goodIn_sub (show zy_S _ wsX12_about from (zy_c (zy_t (zy_l (zy_l (zy_t (zy_t (zy_t (zy_t (zy_t (zy_t (zy_t (zy_t (zy_t (zy_t (zy_t (zy_t (zy_t (zy_t (zy_t (zy_t (zy_t (zy_t (zy_t (zy_t (zy_t (zy_t (zy_t zy_h)))))))))))))))))))))))))) (zy_a (zy_c (zy_t (zy_l (zy_r zy_h))) zy_n) (zy_p (fun _ h => (zy_t (zy_r h))))))) (by decide +kernel) | exact goodIn_r _ [24, 25, 26, 27, 28, 29, 30, 31, 32, 33, 34, 35, 36, 37, 38, 39, 40, 41, 42, 43, 44, 45, 46, 47, 48, 49, 50, 51, 52, 53, 54, 55, 56, 57, 58, 59, 60, 61] (by decide +kernel) (by decide +kernel)
set_option maxRecDepth 20000 in
theorem gX12_about_X12_fails : GoodIn wsX12_about (wsV RX12 72 RX12 yX12_fails wsX12_fails) := by first | exact goodIn_app (goodIn_sub (show zy_S _ wsX12_about from (zy_c (zy_t (zy_l (zy_l (zy_t (zy_t (zy_t (zy_t (zy_t (zy_t (zy_t (zy_t (zy_t (zy_t (zy_t (zy_t (zy_t (zy_t (zy_t (zy_t (zy_t (zy_t (zy_t (zy_t zy_h))))))))))))))))))))))) (zy_c (zy_t (zy_l (zy_l (zy_t (zy_t (zy_t (zy_t (zy_t (zy_t (zy_t (zy_t (zy_t (zy_t (zy_t (zy_t (zy_t (zy_t (zy_t (zy_t (zy_t (zy_t (zy_t (zy_t (zy_t zy_h)))))))))))))))))))))))) (zy_c (zy_t (zy_l (zy_l (zy_t (zy_t (zy_t (zy_t (zy_t (zy_t (zy_t (zy_t (zy_t (zy_t (zy_t (zy_t (zy_t (zy_t (zy_t (zy_t (zy_t (zy_t (zy_t (zy_t (zy_t (zy_t zy_h))))))))))))))))))))))))) (zy_c (zy_t (zy_l (zy_l (zy_t (zy_t (zy_t (zy_t (zy_t (zy_t (zy_t zy_h)))))))))) zy_n))))) (by decide +kernel)) ggX12_about_X12_fails | exact goodIn_app (goodIn_of _ (by decide +kernel)) ggX12_about_X12_fails
theorem dX12_about_0 : decode cX12_about 0 = .ok (.aload_n 0, 1) := by decide +kernel
theorem dX12_about_1 : decode cX12_about 1 = .ok (.iload_n 1, 1) := by decide +kernel
theorem dX12_about_2 : decode cX12_about 2 = .ok (.invokevirtual 181, 3) := by decide +kernel
theorem dX12_about_5 : decode cX12_about 5 = .ok (.istore_n 3, 1) := by decide +kernel
theorem dX12_about_6 : decode cX12_about 6 = .ok (.aload_n 0, 1) := by decide +kernel
theorem dX12_about_7 : decode cX12_about 7 = .ok (.iload_n 2, 1) := by decide +kernel
theorem dX12_about_8 : decode cX12_about 8 = .ok (.ifCond .lt 8, 3) := by decide +kernel
theorem dX12_about_11 : decode cX12_about 11 = .ok (.iload_n 2, 1) := by decide +kernel
theorem dX12_about_12 : decode cX12_about 12 = .ok (.iconst 2, 1) := by decide +kernel
theorem dX12_about_13 : decode cX12_about 13 = .ok (.if_icmp .le 7, 3) := by decide +kernel
theorem dX12_about_16 : decode cX12_about 16 = .ok (.iconst 1, 1) := by decide +kernel
theorem dX12_about_17 : decode cX12_about 17 = .ok (.goto 27, 3) := by decide +kernel
theorem dX12_about_20 : decode cX12_about 20 = .ok (.aload_n 0, 1) := by decide +kernel
theorem dX12_about_21 : decode cX12_about 21 = .ok (.getfield 13, 3) := by decide +kernel
theorem dX12_about_24 : decode cX12_about 24 = .ok (.ifCond .ge 7, 3) := by decide +kernel
theorem dX12_about_27 : decode cX12_about 27 = .ok (.iconst 2, 1) := by decide +kernel
theorem dX12_about_28 : decode cX12_about 28 = .ok (.goto 16, 3) := by decide +kernel
theorem dX12_about_31 : decode cX12_about 31 = .ok (.iload_n 3, 1) := by decide +kernel
theorem dX12_about_32 : decode cX12_about 32 = .ok (.ifCond .lt 7, 3) := by decide +kernel
theorem dX12_about_35 : decode cX12_about 35 = .ok (.iload_n 1, 1) := by decide +kernel
theorem dX12_about_36 : decode cX12_about 36 = .ok (.ifCond .ge 7, 3) := by decide +kernel
theorem dX12_about_39 : decode cX12_about 39 = .ok (.iconst 3, 1) := by decide +kernel
theorem dX12_about_40 : decode cX12_about 40 = .ok (.goto 4, 3) := by decide +kernel
theorem dX12_about_43 : decode cX12_about 43 = .ok (.iconst 0, 1) := by decide +kernel
theorem dX12_about_44 : decode cX12_about 44 = .ok (.invokevirtual 72, 3) := by decide +kernel
theorem dX12_about_47 : decode cX12_about 47 = .ok (.ifCond .eq 5, 3) := by decide +kernel
theorem dX12_about_50 : decode cX12_about 50 = .ok (.iconst 0, 1) := by decide +kernel
theorem dX12_about_51 : decode cX12_about 51 = .ok (.ireturn, 1) := by decide +kernel
theorem dX12_about_52 : decode cX12_about 52 = .ok (.iload_n 2, 1) := by decide +kernel
theorem dX12_about_53 : decode cX12_about 53 = .ok (.ifCond .ne 12, 3) := by decide +kernel
theorem dX12_about_56 : decode cX12_about 56 = .ok (.aload_n 0, 1) := by decide +kernel
theorem dX12_about_57 : decode cX12_about 57 = .ok (.getfield 23, 3) := by decide +kernel
theorem dX12_about_60 : decode cX12_about 60 = .ok (.iload_n 3, 1) := by decide +kernel
theorem dX12_about_61 : decode cX12_about 61 = .ok (.iaload, 1) := by decide +kernel
theorem dX12_about_62 : decode cX12_about 62 = .ok (.goto 23, 3) := by decide +kernel
theorem dX12_about_65 : decode cX12_about 65 = .ok (.iload_n 2, 1) := by decide +kernel
theorem dX12_about_66 : decode cX12_about 66 = .ok (.iconst 1, 1) := by decide +kernel
theorem dX12_about_67 : decode cX12_about 67 = .ok (.if_icmp .ne 12, 3) := by decide +kernel
theorem dX12_about_70 : decode cX12_about 70 = .ok (.aload_n 0, 1) := by decide +kernel
theorem dX12_about_71 : decode cX12_about 71 = .ok (.getfield 26, 3) := by decide +kernel
theorem dX12_about_74 : decode cX12_about 74 = .ok (.iload_n 3, 1) := by decide +kernel
theorem dX12_about_75 : decode cX12_about 75 = .ok (.iaload, 1) := by decide +kernel
theorem dX12_about_76 : decode cX12_about 76 = .ok (.goto 9, 3) := by decide +kernel
theorem dX12_about_79 : decode cX12_about 79 = .ok (.aload_n 0, 1) := by decide +kernel
theorem dX12_about_80 : decode cX12_about 80 = .ok (.getfield 29, 3) := by decide +kernel
theorem dX12_about_83 : decode cX12_about 83 = .ok (.iload_n 3, 1) := by decide +kernel
theorem dX12_about_84 : decode cX12_about 84 = .ok (.iaload, 1) := by decide +kernel
theorem dX12_about_85 : decode cX12_about 85 = .ok (.ireturn, 1) := by decide +kernel
set_option maxRecDepth 20000 in
theorem ggX12_at_X12_fails : GoodIn wsX12_at wsX12_fails := by first | exact goodIn_sub (show zy_S _ wsX12_at from (zy_c (zy_t (zy_l (zy_t (zy_t (zy_t (zy_t (zy_t (zy_t (zy_t (zy_t zy_h)))))))))) (zy_a (zy_c (zy_t (zy_l (zy_t (zy_t (zy_t (zy_t (zy_t (zy_t (zy_t (zy_t (zy_t zy_h))))))))))) zy_n) (zy_p (fun _ h => (zy_t (zy_r h))))))) (by decide +kernel) | exact goodIn_r _ [9, 10, 11, 12, 13, 14, 15, 16, 17, 18, 19, 20, 21, 22, 23, 24, 25, 26, 27, 28, 29, 30, 31, 32, 33, 34, 35, 36, 37, 38, 39, 40, 41, 42, 43, 44, 45, 46] (by decide +kernel) (by decide +kernel)
set_option maxRecDepth 20000 in
theorem gX12_at_X12_fails : GoodIn wsX12_at (wsV RX12 72 RX12 yX12_fails wsX12_fails) := by first | exact goodIn_app (goodIn_sub (show zy_S _ wsX12_at from (zy_c (zy_t (zy_l (zy_t (zy_t (zy_t (zy_t zy_h)))))) (zy_c (zy_t (zy_l (zy_t (zy_t (zy_t (zy_t (zy_t zy_h))))))) (zy_c (zy_t (zy_l (zy_t (zy_t (zy_t (zy_t (zy_t (zy_t zy_h)))))))) (zy_c (zy_t (zy_l (zy_t (zy_t (zy_t (zy_t (zy_t (zy_t (zy_t zy_h))))))))) zy_n))))) (by decide +kernel)) ggX12_at_X12_fails | exact goodIn_app (goodIn_of _ (by decide +kernel)) ggX12_at_X12_fails
theorem dX12_at_0 : decode cX12_at 0 = .ok (.aload_n 0, 1) := by decide +kernel
theorem dX12_at_1 : decode cX12_at 1 = .ok (.iload_n 1, 1) := by decide +kernel
theorem dX12_at_2 : decode cX12_at 2 = .ok (.ifCond .lt 24, 3) := by decide +kernel
theorem dX12_at_5 : decode cX12_at 5 = .ok (.iload_n 1, 1) := by decide +kernel
theorem dX12_at_6 : decode cX12_at 6 = .ok (.aload_n 0, 1) := by decide +kernel
theorem dX12_at_7 : decode cX12_at 7 = .ok (.getfield 13, 3) := by decide +kernel
theorem dX12_at_10 : decode cX12_at 10 = .ok (.ifCond .ge 9, 3) := by decide +kernel
theorem dX12_at_13 : decode cX12_at 13 = .ok (.sipush 1024, 3) := by decide +kernel
theorem dX12_at_16 : decode cX12_at 16 = .ok (.goto 7, 3) := by decide +kernel
theorem dX12_at_19 : decode cX12_at 19 = .ok (.aload_n 0, 1) := by decide +kernel
theorem dX12_at_20 : decode cX12_at 20 = .ok (.getfield 76, 3) := by decide +kernel
theorem dX12_at_23 : decode cX12_at 23 = .ok (.if_icmp .lt 7, 3) := by decide +kernel
theorem dX12_at_26 : decode cX12_at 26 = .ok (.iconst 1, 1) := by decide +kernel
theorem dX12_at_27 : decode cX12_at 27 = .ok (.goto 15, 3) := by decide +kernel
theorem dX12_at_30 : decode cX12_at 30 = .ok (.aload_n 0, 1) := by decide +kernel
theorem dX12_at_31 : decode cX12_at 31 = .ok (.getfield 13, 3) := by decide +kernel
theorem dX12_at_34 : decode cX12_at 34 = .ok (.ifCond .ge 7, 3) := by decide +kernel
theorem dX12_at_37 : decode cX12_at 37 = .ok (.iconst 2, 1) := by decide +kernel
theorem dX12_at_38 : decode cX12_at 38 = .ok (.goto 4, 3) := by decide +kernel
theorem dX12_at_41 : decode cX12_at 41 = .ok (.iconst 0, 1) := by decide +kernel
theorem dX12_at_42 : decode cX12_at 42 = .ok (.invokevirtual 72, 3) := by decide +kernel
theorem dX12_at_45 : decode cX12_at 45 = .ok (.ifCond .eq 5, 3) := by decide +kernel
theorem dX12_at_48 : decode cX12_at 48 = .ok (.iconst 0, 1) := by decide +kernel
theorem dX12_at_49 : decode cX12_at 49 = .ok (.ireturn, 1) := by decide +kernel
theorem dX12_at_50 : decode cX12_at 50 = .ok (.aload_n 0, 1) := by decide +kernel
theorem dX12_at_51 : decode cX12_at 51 = .ok (.getfield 16, 3) := by decide +kernel
theorem dX12_at_54 : decode cX12_at 54 = .ok (.iload_n 1, 1) := by decide +kernel
theorem dX12_at_55 : decode cX12_at 55 = .ok (.iaload, 1) := by decide +kernel
theorem dX12_at_56 : decode cX12_at 56 = .ok (.ifCond .lt 19, 3) := by decide +kernel
theorem dX12_at_59 : decode cX12_at 59 = .ok (.aload_n 0, 1) := by decide +kernel
theorem dX12_at_60 : decode cX12_at 60 = .ok (.getfield 20, 3) := by decide +kernel
theorem dX12_at_63 : decode cX12_at 63 = .ok (.aload_n 0, 1) := by decide +kernel
theorem dX12_at_64 : decode cX12_at 64 = .ok (.getfield 16, 3) := by decide +kernel
theorem dX12_at_67 : decode cX12_at 67 = .ok (.iload_n 1, 1) := by decide +kernel
theorem dX12_at_68 : decode cX12_at 68 = .ok (.iaload, 1) := by decide +kernel
theorem dX12_at_69 : decode cX12_at 69 = .ok (.iaload, 1) := by decide +kernel
theorem dX12_at_70 : decode cX12_at 70 = .ok (.iconst 1, 1) := by decide +kernel
theorem dX12_at_71 : decode cX12_at 71 = .ok (.isub, 1) := by decide +kernel
theorem dX12_at_72 : decode cX12_at 72 = .ok (.goto 4, 3) := by decide +kernel
theorem dX12_at_75 : decode cX12_at 75 = .ok (.iconst (-1), 1) := by decide +kernel
theorem dX12_at_76 : decode cX12_at 76 = .ok (.ireturn, 1) := by decide +kernel
set_option maxRecDepth 20000 in
theorem ggX12_run_X12_fails : GoodIn wsX12_run wsX12_fails := by first | exact goodIn_sub (show zy_S _ wsX12_run from (zy_c (zy_t (zy_l (zy_t (zy_t (zy_t (zy_t (zy_t (zy_t zy_h)))))))) (zy_a (zy_c (zy_t (zy_l (zy_t (zy_t (zy_t (zy_t (zy_t (zy_t (zy_t zy_h))))))))) zy_n) (zy_p (fun _ h => (zy_t (zy_r h))))))) (by decide +kernel) | exact goodIn_r _ [7, 8, 15, 16, 17, 18, 19, 20, 21, 22, 23, 24, 25, 26, 27, 28, 29, 30, 31, 32, 33, 34, 35, 36, 37, 38, 39, 40, 41, 42, 43, 44, 45, 46, 47, 48, 49, 50] (by decide +kernel) (by decide +kernel)
set_option maxRecDepth 20000 in
theorem gX12_run_X12_fails : GoodIn wsX12_run (wsV RX12 72 RX12 yX12_fails wsX12_fails) := by first | exact goodIn_app (goodIn_sub (show zy_S _ wsX12_run from (zy_c (zy_t (zy_l (zy_t (zy_t zy_h)))) (zy_c (zy_t (zy_l (zy_t (zy_t (zy_t zy_h))))) (zy_c (zy_t (zy_l (zy_t (zy_t (zy_t (zy_t zy_h)))))) (zy_c (zy_t (zy_l (zy_t (zy_t (zy_t (zy_t (zy_t zy_h))))))) zy_n))))) (by decide +kernel)) ggX12_run_X12_fails | exact goodIn_app (goodIn_of _ (by decide +kernel)) ggX12_run_X12_fails
set_option maxRecDepth 20000 in
theorem ggX12_run_X12_runFrom : GoodIn wsX12_run wsX12_runFrom := by first | exact goodIn_sub (show zy_S _ wsX12_run from (zy_c (zy_t (zy_l (zy_t (zy_t (zy_t (zy_t (zy_t (zy_t (zy_t (zy_t (zy_t (zy_t (zy_t zy_h))))))))))))) (zy_a (zy_c (zy_t (zy_l (zy_t (zy_t (zy_t (zy_t (zy_t (zy_t (zy_t (zy_t (zy_t (zy_t (zy_t (zy_t zy_h)))))))))))))) (zy_c (zy_t (zy_l (zy_t (zy_t (zy_t (zy_t (zy_t (zy_t (zy_t (zy_t (zy_t (zy_t (zy_t (zy_t (zy_t zy_h))))))))))))))) (zy_c (zy_t (zy_l (zy_t zy_h))) zy_n))) (zy_p (fun _ h => (zy_t (zy_r h))))))) (by decide +kernel) | exact goodIn_r _ [12, 13, 14, 2, 15, 16, 17, 18, 19, 20, 21, 22, 23, 24, 25, 26, 27, 28, 29, 30, 31, 32, 33, 34, 35, 36, 37, 38, 39, 40, 41, 42, 43, 44, 45, 46, 47, 48, 49, 50] (by decide +kernel) (by decide +kernel)
set_option maxRecDepth 20000 in
theorem gX12_run_X12_runFrom : GoodIn wsX12_run (wsV RX12 116 RX12 yX12_runFrom wsX12_runFrom) := by first | exact goodIn_app (goodIn_sub (show zy_S _ wsX12_run from (zy_c (zy_t (zy_l (zy_t (zy_t (zy_t (zy_t (zy_t (zy_t (zy_t (zy_t zy_h)))))))))) (zy_c (zy_t (zy_l (zy_t (zy_t (zy_t (zy_t (zy_t (zy_t (zy_t (zy_t (zy_t zy_h))))))))))) (zy_c (zy_t (zy_l (zy_t (zy_t (zy_t (zy_t (zy_t (zy_t (zy_t (zy_t (zy_t (zy_t zy_h)))))))))))) (zy_c (zy_t (zy_l (zy_t (zy_t (zy_t (zy_t (zy_t zy_h))))))) zy_n))))) (by decide +kernel)) ggX12_run_X12_runFrom | exact goodIn_app (goodIn_of _ (by decide +kernel)) ggX12_run_X12_runFrom
theorem dX12_run_0 : decode cX12_run 0 = .ok (.aload_n 0, 1) := by decide +kernel
theorem dX12_run_1 : decode cX12_run 1 = .ok (.iload_n 2, 1) := by decide +kernel
theorem dX12_run_2 : decode cX12_run 2 = .ok (.ifCond .lt 8, 3) := by decide +kernel
theorem dX12_run_5 : decode cX12_run 5 = .ok (.iload_n 2, 1) := by decide +kernel
theorem dX12_run_6 : decode cX12_run 6 = .ok (.iconst 1, 1) := by decide +kernel
theorem dX12_run_7 : decode cX12_run 7 = .ok (.if_icmp .le 7, 3) := by decide +kernel
theorem dX12_run_10 : decode cX12_run 10 = .ok (.iconst 1, 1) := by decide +kernel
theorem dX12_run_11 : decode cX12_run 11 = .ok (.goto 15, 3) := by decide +kernel
theorem dX12_run_14 : decode cX12_run 14 = .ok (.aload_n 0, 1) := by decide +kernel
theorem dX12_run_15 : decode cX12_run 15 = .ok (.getfield 13, 3) := by decide +kernel
theorem dX12_run_18 : decode cX12_run 18 = .ok (.ifCond .ge 7, 3) := by decide +kernel
theorem dX12_run_21 : decode cX12_run 21 = .ok (.iconst 2, 1) := by decide +kernel
theorem dX12_run_22 : decode cX12_run 22 = .ok (.goto 4, 3) := by decide +kernel
theorem dX12_run_25 : decode cX12_run 25 = .ok (.iconst 0, 1) := by decide +kernel
theorem dX12_run_26 : decode cX12_run 26 = .ok (.invokevirtual 72, 3) := by decide +kernel
theorem dX12_run_29 : decode cX12_run 29 = .ok (.ifCond .eq 5, 3) := by decide +kernel
theorem dX12_run_32 : decode cX12_run 32 = .ok (.iconst 0, 1) := by decide +kernel
theorem dX12_run_33 : decode cX12_run 33 = .ok (.ireturn, 1) := by decide +kernel
theorem dX12_run_34 : decode cX12_run 34 = .ok (.aload_n 0, 1) := by decide +kernel
theorem dX12_run_35 : decode cX12_run 35 = .ok (.iconst 0, 1) := by decide +kernel
theorem dX12_run_36 : decode cX12_run 36 = .ok (.invokevirtual 116, 3) := by decide +kernel
theorem dX12_run_39 : decode cX12_run 39 = .ok (.istore_n 3, 1) := by decide +kernel
theorem dX12_run_40 : decode cX12_run 40 = .ok (.iconst 0, 1) := by decide +kernel
theorem dX12_run_41 : decode cX12_run 41 = .ok (.istore 4, 2) := by decide +kernel
theorem dX12_run_43 : decode cX12_run 43 = .ok (.iload 4, 2) := by decide +kernel
theorem dX12_run_45 : decode cX12_run 45 = .ok (.iload_n 1, 1) := by decide +kernel
theorem dX12_run_46 : decode cX12_run 46 = .ok (.if_icmp .ge 24, 3) := by decide +kernel
theorem dX12_run_49 : decode cX12_run 49 = .ok (.iload_n 3, 1) := by decide +kernel
theorem dX12_run_50 : decode cX12_run 50 = .ok (.ifCond .lt 20, 3) := by decide +kernel
theorem dX12_run_53 : decode cX12_run 53 = .ok (.aload_n 0, 1) := by decide +kernel
theorem dX12_run_54 : decode cX12_run 54 = .ok (.iload_n 3, 1) := by decide +kernel
theorem dX12_run_55 : decode cX12_run 55 = .ok (.aload_n 0, 1) := by decide +kernel
theorem dX12_run_56 : decode cX12_run 56 = .ok (.getfield 113, 3) := by decide +kernel
theorem dX12_run_59 : decode cX12_run 59 = .ok (.iadd, 1) := by decide +kernel
theorem dX12_run_60 : decode cX12_run 60 = .ok (.invokevirtual 116, 3) := by decide +kernel
theorem dX12_run_63 : decode cX12_run 63 = .ok (.istore_n 3, 1) := by decide +kernel
theorem dX12_run_64 : decode cX12_run 64 = .ok (.iinc 4 1, 3) := by decide +kernel
theorem dX12_run_67 : decode cX12_run 67 = .ok (.goto (-24), 3) := by decide +kernel
theorem dX12_run_70 : decode cX12_run 70 = .ok (.aload_n 0, 1) := by decide +kernel
theorem dX12_run_71 : decode cX12_run 71 = .ok (.iload_n 1, 1) := by decide +kernel
theorem dX12_run_72 : decode cX12_run 72 = .ok (.ifCond .lt 7, 3) := by decide +kernel
theorem dX12_run_75 : decode cX12_run 75 = .ok (.iload_n 3, 1) := by decide +kernel
theorem dX12_run_76 : decode cX12_run 76 = .ok (.ifCond .ge 7, 3) := by decide +kernel
theorem dX12_run_79 : decode cX12_run 79 = .ok (.iconst 3, 1) := by decide +kernel
theorem dX12_run_80 : decode cX12_run 80 = .ok (.goto 4, 3) := by decide +kernel
theorem dX12_run_83 : decode cX12_run 83 = .ok (.iconst 0, 1) := by decide +kernel
theorem dX12_run_84 : decode cX12_run 84 = .ok (.invokevirtual 72, 3) := by decide +kernel
theorem dX12_run_87 : decode cX12_run 87 = .ok (.ifCond .eq 5, 3) := by decide +kernel
theorem dX12_run_90 : decode cX12_run 90 = .ok (.iconst 0, 1) := by decide +kernel
theorem dX12_run_91 : decode cX12_run 91 = .ok (.ireturn, 1) := by decide +kernel
theorem dX12_run_92 : decode cX12_run 92 = .ok (.iload_n 2, 1) := by decide +kernel
theorem dX12_run_93 : decode cX12_run 93 = .ok (.ifCond .ne 7, 3) := by decide +kernel
theorem dX12_run_96 : decode cX12_run 96 = .ok (.iload_n 3, 1) := by decide +kernel
theorem dX12_run_97 : decode cX12_run 97 = .ok (.goto 7, 3) := by decide +kernel
theorem dX12_run_100 : decode cX12_run 100 = .ok (.aload_n 0, 1) := by decide +kernel
theorem dX12_run_101 : decode cX12_run 101 = .ok (.getfield 113, 3) := by decide +kernel
theorem dX12_run_104 : decode cX12_run 104 = .ok (.ireturn, 1) := by decide +kernel
set_option maxRecDepth 20000 in
theorem ggX12_list_X12_fails : GoodIn wsX12_list wsX12_fails := by first | exact goodIn_sub (show zy_S _ wsX12_list from (zy_c (zy_t (zy_l (zy_t (zy_t (zy_t (zy_t (zy_t (zy_t (zy_t zy_h))))))))) (zy_a (zy_c (zy_t (zy_l (zy_t (zy_t (zy_t (zy_t (zy_t (zy_t (zy_t (zy_t zy_h)))))))))) zy_n) (zy_p (fun _ h => (zy_t (zy_r h))))))) (by decide +kernel) | exact goodIn_r _ [8, 9, 10, 11, 12, 13, 14, 15, 16, 17, 18, 19, 20, 21, 22, 23, 24, 25, 26, 27, 28, 29, 30, 31, 32, 33, 34, 35, 36, 37, 38, 39, 40, 41, 42, 43, 44, 45] (by decide +kernel) (by decide +kernel)
set_option maxRecDepth 20000 in
theorem gX12_list_X12_fails : GoodIn wsX12_list (wsV RX12 72 RX12 yX12_fails wsX12_fails) := by first | exact goodIn_app (goodIn_sub (show zy_S _ wsX12_list from (zy_c (zy_t (zy_l (zy_t (zy_t (zy_t zy_h))))) (zy_c (zy_t (zy_l (zy_t (zy_t (zy_t (zy_t zy_h)))))) (zy_c (zy_t (zy_l (zy_t (zy_t (zy_t (zy_t (zy_t zy_h))))))) (zy_c (zy_t (zy_l (zy_t (zy_t (zy_t (zy_t (zy_t (zy_t zy_h)))))))) zy_n))))) (by decide +kernel)) ggX12_list_X12_fails | exact goodIn_app (goodIn_of _ (by decide +kernel)) ggX12_list_X12_fails
theorem dX12_list_0 : decode cX12_list 0 = .ok (.aload_n 0, 1) := by decide +kernel
theorem dX12_list_1 : decode cX12_list 1 = .ok (.iload_n 1, 1) := by decide +kernel
theorem dX12_list_2 : decode cX12_list 2 = .ok (.ifCond .lt 9, 3) := by decide +kernel
theorem dX12_list_5 : decode cX12_list 5 = .ok (.iload_n 1, 1) := by decide +kernel
theorem dX12_list_6 : decode cX12_list 6 = .ok (.bipush 44, 2) := by decide +kernel
theorem dX12_list_8 : decode cX12_list 8 = .ok (.if_icmp .lt 7, 3) := by decide +kernel
theorem dX12_list_11 : decode cX12_list 11 = .ok (.iconst 1, 1) := by decide +kernel
theorem dX12_list_12 : decode cX12_list 12 = .ok (.goto 46, 3) := by decide +kernel
theorem dX12_list_15 : decode cX12_list 15 = .ok (.aload_n 0, 1) := by decide +kernel
theorem dX12_list_16 : decode cX12_list 16 = .ok (.getfield 13, 3) := by decide +kernel
theorem dX12_list_19 : decode cX12_list 19 = .ok (.ifCond .ge 7, 3) := by decide +kernel
theorem dX12_list_22 : decode cX12_list 22 = .ok (.iconst 2, 1) := by decide +kernel
theorem dX12_list_23 : decode cX12_list 23 = .ok (.goto 35, 3) := by decide +kernel
theorem dX12_list_26 : decode cX12_list 26 = .ok (.aload_n 0, 1) := by decide +kernel
theorem dX12_list_27 : decode cX12_list 27 = .ok (.getfield 13, 3) := by decide +kernel
theorem dX12_list_30 : decode cX12_list 30 = .ok (.bipush 7, 2) := by decide +kernel
theorem dX12_list_32 : decode cX12_list 32 = .ok (.if_icmp .eq 7, 3) := by decide +kernel
theorem dX12_list_35 : decode cX12_list 35 = .ok (.iconst 3, 1) := by decide +kernel
theorem dX12_list_36 : decode cX12_list 36 = .ok (.goto 22, 3) := by decide +kernel
theorem dX12_list_39 : decode cX12_list 39 = .ok (.iload_n 2, 1) := by decide +kernel
theorem dX12_list_40 : decode cX12_list 40 = .ok (.ifCond .lt 13, 3) := by decide +kernel
theorem dX12_list_43 : decode cX12_list 43 = .ok (.iload_n 2, 1) := by decide +kernel
theorem dX12_list_44 : decode cX12_list 44 = .ok (.aload_n 0, 1) := by decide +kernel
theorem dX12_list_45 : decode cX12_list 45 = .ok (.getfield 42, 3) := by decide +kernel
theorem dX12_list_48 : decode cX12_list 48 = .ok (.iload_n 1, 1) := by decide +kernel
theorem dX12_list_49 : decode cX12_list 49 = .ok (.iaload, 1) := by decide +kernel
theorem dX12_list_50 : decode cX12_list 50 = .ok (.if_icmp .lt 7, 3) := by decide +kernel
theorem dX12_list_53 : decode cX12_list 53 = .ok (.iconst 4, 1) := by decide +kernel
theorem dX12_list_54 : decode cX12_list 54 = .ok (.goto 4, 3) := by decide +kernel
theorem dX12_list_57 : decode cX12_list 57 = .ok (.iconst 0, 1) := by decide +kernel
theorem dX12_list_58 : decode cX12_list 58 = .ok (.invokevirtual 72, 3) := by decide +kernel
theorem dX12_list_61 : decode cX12_list 61 = .ok (.ifCond .eq 5, 3) := by decide +kernel
theorem dX12_list_64 : decode cX12_list 64 = .ok (.iconst 0, 1) := by decide +kernel
theorem dX12_list_65 : decode cX12_list 65 = .ok (.ireturn, 1) := by decide +kernel
theorem dX12_list_66 : decode cX12_list 66 = .ok (.aload_n 0, 1) := by decide +kernel
theorem dX12_list_67 : decode cX12_list 67 = .ok (.getfield 39, 3) := by decide +kernel
theorem dX12_list_70 : decode cX12_list 70 = .ok (.iload_n 1, 1) := by decide +kernel
theorem dX12_list_71 : decode cX12_list 71 = .ok (.sipush 1024, 3) := by decide +kernel
theorem dX12_list_74 : decode cX12_list 74 = .ok (.imul, 1) := by decide +kernel
theorem dX12_list_75 : decode cX12_list 75 = .ok (.iload_n 2, 1) := by decide +kernel
theorem dX12_list_76 : decode cX12_list 76 = .ok (.iadd, 1) := by decide +kernel
theorem dX12_list_77 : decode cX12_list 77 = .ok (.iaload, 1) := by decide +kernel
theorem dX12_list_78 : decode cX12_list 78 = .ok (.ireturn, 1) := by decide +kernel
theorem dX12_take_0 : decode cX12_take 0 = .ok (.aload_n 0, 1) := by decide +kernel
theorem dX12_take_1 : decode cX12_take 1 = .ok (.lload_n 1, 1) := by decide +kernel
theorem dX12_take_2 : decode cX12_take 2 = .ok (.ldc2_w 197, 3) := by decide +kernel
theorem dX12_take_5 : decode cX12_take 5 = .ok (.lrem, 1) := by decide +kernel
theorem dX12_take_6 : decode cX12_take 6 = .ok (.l2i, 1) := by decide +kernel
theorem dX12_take_7 : decode cX12_take 7 = .ok (.putfield 199, 3) := by decide +kernel
theorem dX12_take_10 : decode cX12_take 10 = .ok (.lload_n 1, 1) := by decide +kernel
theorem dX12_take_11 : decode cX12_take 11 = .ok (.ldc2_w 197, 3) := by decide +kernel
theorem dX12_take_14 : decode cX12_take 14 = .ok (.ldiv, 1) := by decide +kernel
theorem dX12_take_15 : decode cX12_take 15 = .ok (.lstore_n 3, 1) := by decide +kernel
theorem dX12_take_16 : decode cX12_take 16 = .ok (.aload_n 0, 1) := by decide +kernel
theorem dX12_take_17 : decode cX12_take 17 = .ok (.iconst 0, 1) := by decide +kernel
theorem dX12_take_18 : decode cX12_take 18 = .ok (.putfield 202, 3) := by decide +kernel
theorem dX12_take_21 : decode cX12_take 21 = .ok (.iconst 0, 1) := by decide +kernel
theorem dX12_take_22 : decode cX12_take 22 = .ok (.istore 5, 2) := by decide +kernel
theorem dX12_take_24 : decode cX12_take 24 = .ok (.iload 5, 2) := by decide +kernel
theorem dX12_take_26 : decode cX12_take 26 = .ok (.bipush 14, 2) := by decide +kernel
theorem dX12_take_28 : decode cX12_take 28 = .ok (.if_icmp .ge 50, 3) := by decide +kernel
theorem dX12_take_31 : decode cX12_take 31 = .ok (.aload_n 0, 1) := by decide +kernel
theorem dX12_take_32 : decode cX12_take 32 = .ok (.getfield 69, 3) := by decide +kernel
theorem dX12_take_35 : decode cX12_take 35 = .ok (.iload 5, 2) := by decide +kernel
theorem dX12_take_37 : decode cX12_take 37 = .ok (.lload_n 3, 1) := by decide +kernel
theorem dX12_take_38 : decode cX12_take 38 = .ok (.ldc2_w 205, 3) := by decide +kernel
theorem dX12_take_41 : decode cX12_take 41 = .ok (.lrem, 1) := by decide +kernel
theorem dX12_take_42 : decode cX12_take 42 = .ok (.l2i, 1) := by decide +kernel
theorem dX12_take_43 : decode cX12_take 43 = .ok (.iconst 1, 1) := by decide +kernel
theorem dX12_take_44 : decode cX12_take 44 = .ok (.isub, 1) := by decide +kernel
theorem dX12_take_45 : decode cX12_take 45 = .ok (.iastore, 1) := by decide +kernel
theorem dX12_take_46 : decode cX12_take 46 = .ok (.lload_n 3, 1) := by decide +kernel
theorem dX12_take_47 : decode cX12_take 47 = .ok (.ldc2_w 205, 3) := by decide +kernel
theorem dX12_take_50 : decode cX12_take 50 = .ok (.ldiv, 1) := by decide +kernel
theorem dX12_take_51 : decode cX12_take 51 = .ok (.lstore_n 3, 1) := by decide +kernel
theorem dX12_take_52 : decode cX12_take 52 = .ok (.aload_n 0, 1) := by decide +kernel
theorem dX12_take_53 : decode cX12_take 53 = .ok (.getfield 69, 3) := by decide +kernel
theorem dX12_take_56 : decode cX12_take 56 = .ok (.iload 5, 2) := by decide +kernel
theorem dX12_take_58 : decode cX12_take 58 = .ok (.iaload, 1) := by decide +kernel
theorem dX12_take_59 : decode cX12_take 59 = .ok (.ifCond .lt 13, 3) := by decide +kernel
theorem dX12_take_62 : decode cX12_take 62 = .ok (.aload_n 0, 1) := by decide +kernel
theorem dX12_take_63 : decode cX12_take 63 = .ok (.dup, 1) := by decide +kernel
theorem dX12_take_64 : decode cX12_take 64 = .ok (.getfield 202, 3) := by decide +kernel
theorem dX12_take_67 : decode cX12_take 67 = .ok (.iconst 1, 1) := by decide +kernel
theorem dX12_take_68 : decode cX12_take 68 = .ok (.iadd, 1) := by decide +kernel
theorem dX12_take_69 : decode cX12_take 69 = .ok (.putfield 202, 3) := by decide +kernel
theorem dX12_take_72 : decode cX12_take 72 = .ok (.iinc 5 1, 3) := by decide +kernel
theorem dX12_take_75 : decode cX12_take 75 = .ok (.goto (-51), 3) := by decide +kernel
theorem dX12_take_78 : decode cX12_take 78 = .ok (.return_, 1) := by decide +kernel
theorem dX12_roomNumber_0 : decode cX12_roomNumber 0 = .ok (.lconst 0, 1) := by decide +kernel
theorem dX12_roomNumber_1 : decode cX12_roomNumber 1 = .ok (.lstore_n 1, 1) := by decide +kernel
theorem dX12_roomNumber_2 : decode cX12_roomNumber 2 = .ok (.bipush 13, 2) := by decide +kernel
theorem dX12_roomNumber_4 : decode cX12_roomNumber 4 = .ok (.istore_n 3, 1) := by decide +kernel
theorem dX12_roomNumber_5 : decode cX12_roomNumber 5 = .ok (.iload_n 3, 1) := by decide +kernel
theorem dX12_roomNumber_6 : decode cX12_roomNumber 6 = .ok (.ifCond .lt 25, 3) := by decide +kernel
theorem dX12_roomNumber_9 : decode cX12_roomNumber 9 = .ok (.ldc2_w 205, 3) := by decide +kernel
theorem dX12_roomNumber_12 : decode cX12_roomNumber 12 = .ok (.lload_n 1, 1) := by decide +kernel
theorem dX12_roomNumber_13 : decode cX12_roomNumber 13 = .ok (.lmul, 1) := by decide +kernel
theorem dX12_roomNumber_14 : decode cX12_roomNumber 14 = .ok (.aload_n 0, 1) := by decide +kernel
theorem dX12_roomNumber_15 : decode cX12_roomNumber 15 = .ok (.getfield 69, 3) := by decide +kernel
theorem dX12_roomNumber_18 : decode cX12_roomNumber 18 = .ok (.iload_n 3, 1) := by decide +kernel
theorem dX12_roomNumber_19 : decode cX12_roomNumber 19 = .ok (.iaload, 1) := by decide +kernel
theorem dX12_roomNumber_20 : decode cX12_roomNumber 20 = .ok (.i2l, 1) := by decide +kernel
theorem dX12_roomNumber_21 : decode cX12_roomNumber 21 = .ok (.ladd, 1) := by decide +kernel
theorem dX12_roomNumber_22 : decode cX12_roomNumber 22 = .ok (.lconst 1, 1) := by decide +kernel
theorem dX12_roomNumber_23 : decode cX12_roomNumber 23 = .ok (.ladd, 1) := by decide +kernel
theorem dX12_roomNumber_24 : decode cX12_roomNumber 24 = .ok (.lstore_n 1, 1) := by decide +kernel
theorem dX12_roomNumber_25 : decode cX12_roomNumber 25 = .ok (.iinc 3 (-1), 3) := by decide +kernel
theorem dX12_roomNumber_28 : decode cX12_roomNumber 28 = .ok (.goto (-23), 3) := by decide +kernel
theorem dX12_roomNumber_31 : decode cX12_roomNumber 31 = .ok (.ldc2_w 197, 3) := by decide +kernel
theorem dX12_roomNumber_34 : decode cX12_roomNumber 34 = .ok (.lload_n 1, 1) := by decide +kernel
theorem dX12_roomNumber_35 : decode cX12_roomNumber 35 = .ok (.lmul, 1) := by decide +kernel
theorem dX12_roomNumber_36 : decode cX12_roomNumber 36 = .ok (.aload_n 0, 1) := by decide +kernel
theorem dX12_roomNumber_37 : decode cX12_roomNumber 37 = .ok (.getfield 199, 3) := by decide +kernel
theorem dX12_roomNumber_40 : decode cX12_roomNumber 40 = .ok (.i2l, 1) := by decide +kernel
theorem dX12_roomNumber_41 : decode cX12_roomNumber 41 = .ok (.ladd, 1) := by decide +kernel
theorem dX12_roomNumber_42 : decode cX12_roomNumber 42 = .ok (.lreturn, 1) := by decide +kernel
set_option maxRecDepth 20000 in
theorem ggX12_placeIn_X12_fitFrom : GoodIn wsX12_placeIn wsX12_fitFrom := by first | exact goodIn_sub (show zy_S _ wsX12_placeIn from (zy_c (zy_t (zy_l (zy_t (zy_t (zy_t (zy_t (zy_t (zy_t (zy_t zy_h))))))))) (zy_a (zy_c (zy_t (zy_l (zy_t (zy_t (zy_t (zy_t (zy_t (zy_t (zy_t (zy_t zy_h)))))))))) (zy_c (zy_t (zy_l (zy_t (zy_t (zy_t (zy_t (zy_t (zy_t (zy_t (zy_t (zy_t zy_h))))))))))) (zy_c (zy_t (zy_l (zy_t (zy_t (zy_t (zy_t (zy_t (zy_t (zy_t (zy_t (zy_t (zy_t zy_h)))))))))))) (zy_c (zy_t (zy_l (zy_t (zy_t (zy_t (zy_t (zy_t (zy_t zy_h)))))))) (zy_c (zy_t (zy_l (zy_t (zy_t (zy_t (zy_t (zy_t (zy_t (zy_t (zy_t (zy_t (zy_t (zy_t zy_h))))))))))))) (zy_c (zy_t (zy_l (zy_t zy_h))) (zy_c (zy_t (zy_l (zy_t (zy_t zy_h)))) zy_n))))))) (zy_p (fun _ h => (zy_t (zy_r h))))))) (by decide +kernel) | exact goodIn_r _ [8, 9, 10, 11, 7, 12, 2, 3, 13, 14, 15, 16, 17, 18, 19, 20, 21, 22, 23, 24, 25, 26, 27, 28, 29, 30, 31, 32, 33, 34, 35, 36, 37, 38, 39, 40, 41, 42, 43, 44, 45, 46, 47, 48] (by decide +kernel) (by decide +kernel)
set_option maxRecDepth 20000 in
theorem gX12_placeIn_X12_fitFrom : GoodIn wsX12_placeIn (wsV RX12 210 RX12 yX12_fitFrom wsX12_fitFrom) := by first | exact goodIn_app (goodIn_sub (show zy_S _ wsX12_placeIn from (zy_c (zy_t (zy_l (zy_t (zy_t (zy_t zy_h))))) (zy_c (zy_t (zy_l (zy_t (zy_t (zy_t (zy_t zy_h)))))) (zy_c (zy_t (zy_l (zy_t (zy_t (zy_t (zy_t (zy_t zy_h))))))) (zy_c (zy_t (zy_l (zy_t (zy_t (zy_t (zy_t (zy_t (zy_t zy_h)))))))) zy_n))))) (by decide +kernel)) ggX12_placeIn_X12_fitFrom | exact goodIn_app (goodIn_of _ (by decide +kernel)) ggX12_placeIn_X12_fitFrom
set_option maxRecDepth 20000 in
theorem ggX12_placeIn_X12_freeAt : GoodIn wsX12_placeIn wsX12_freeAt := by first | exact goodIn_sub (show zy_S _ wsX12_placeIn from (zy_c (zy_t (zy_l (zy_t (zy_t (zy_t (zy_t (zy_t (zy_t (zy_t (zy_t (zy_t (zy_t (zy_t zy_h))))))))))))) (zy_a (zy_c (zy_t (zy_l (zy_t zy_h))) (zy_c (zy_t (zy_l (zy_t (zy_t zy_h)))) zy_n)) (zy_p (fun _ h => (zy_t (zy_r h))))))) (by decide +kernel) | exact goodIn_r _ [12, 2, 3, 13, 14, 15, 16, 17, 18, 19, 20, 21, 22, 23, 24, 25, 26, 27, 28, 29, 30, 31, 32, 33, 34, 35, 36, 37, 38, 39, 40, 41, 42, 43, 44, 45, 46, 47, 48] (by decide +kernel) (by decide +kernel)
set_option maxRecDepth 20000 in
theorem gX12_placeIn_X12_freeAt : GoodIn wsX12_placeIn (wsV RX12 213 RX12 yX12_freeAt wsX12_freeAt) := by first | exact goodIn_app (goodIn_sub (show zy_S _ wsX12_placeIn from (zy_c (zy_t (zy_l (zy_t (zy_t (zy_t (zy_t (zy_t (zy_t (zy_t (zy_t zy_h)))))))))) (zy_c (zy_t (zy_l (zy_t (zy_t (zy_t (zy_t (zy_t (zy_t (zy_t (zy_t (zy_t zy_h))))))))))) (zy_c (zy_t (zy_l (zy_t (zy_t (zy_t (zy_t (zy_t (zy_t (zy_t (zy_t (zy_t (zy_t zy_h)))))))))))) (zy_c (zy_t (zy_l (zy_t (zy_t (zy_t (zy_t (zy_t (zy_t zy_h)))))))) zy_n))))) (by decide +kernel)) ggX12_placeIn_X12_freeAt | exact goodIn_app (goodIn_of _ (by decide +kernel)) ggX12_placeIn_X12_freeAt
theorem dX12_placeIn_0 : decode cX12_placeIn 0 = .ok (.iconst (-1), 1) := by decide +kernel
theorem dX12_placeIn_1 : decode cX12_placeIn 1 = .ok (.istore_n 3, 1) := by decide +kernel
theorem dX12_placeIn_2 : decode cX12_placeIn 2 = .ok (.iconst 0, 1) := by decide +kernel
theorem dX12_placeIn_3 : decode cX12_placeIn 3 = .ok (.istore 4, 2) := by decide +kernel
theorem dX12_placeIn_5 : decode cX12_placeIn 5 = .ok (.iload_n 1, 1) := by decide +kernel
theorem dX12_placeIn_6 : decode cX12_placeIn 6 = .ok (.iconst 1, 1) := by decide +kernel
theorem dX12_placeIn_7 : decode cX12_placeIn 7 = .ok (.if_icmp .ne 39, 3) := by decide +kernel
theorem dX12_placeIn_10 : decode cX12_placeIn 10 = .ok (.aload_n 0, 1) := by decide +kernel
theorem dX12_placeIn_11 : decode cX12_placeIn 11 = .ok (.aload_n 0, 1) := by decide +kernel
theorem dX12_placeIn_12 : decode cX12_placeIn 12 = .ok (.getfield 199, 3) := by decide +kernel
theorem dX12_placeIn_15 : decode cX12_placeIn 15 = .ok (.aload_n 0, 1) := by decide +kernel
theorem dX12_placeIn_16 : decode cX12_placeIn 16 = .ok (.getfield 207, 3) := by decide +kernel
theorem dX12_placeIn_19 : decode cX12_placeIn 19 = .ok (.iload_n 2, 1) := by decide +kernel
theorem dX12_placeIn_20 : decode cX12_placeIn 20 = .ok (.invokevirtual 210, 3) := by decide +kernel
theorem dX12_placeIn_23 : decode cX12_placeIn 23 = .ok (.istore 5, 2) := by decide +kernel
theorem dX12_placeIn_25 : decode cX12_placeIn 25 = .ok (.iload 5, 2) := by decide +kernel
theorem dX12_placeIn_27 : decode cX12_placeIn 27 = .ok (.ifCond .lt 8, 3) := by decide +kernel
theorem dX12_placeIn_30 : decode cX12_placeIn 30 = .ok (.iload 5, 2) := by decide +kernel
theorem dX12_placeIn_32 : decode cX12_placeIn 32 = .ok (.goto 13, 3) := by decide +kernel
theorem dX12_placeIn_35 : decode cX12_placeIn 35 = .ok (.aload_n 0, 1) := by decide +kernel
theorem dX12_placeIn_36 : decode cX12_placeIn 36 = .ok (.iconst 0, 1) := by decide +kernel
theorem dX12_placeIn_37 : decode cX12_placeIn 37 = .ok (.aload_n 0, 1) := by decide +kernel
theorem dX12_placeIn_38 : decode cX12_placeIn 38 = .ok (.getfield 199, 3) := by decide +kernel
theorem dX12_placeIn_41 : decode cX12_placeIn 41 = .ok (.iload_n 2, 1) := by decide +kernel
theorem dX12_placeIn_42 : decode cX12_placeIn 42 = .ok (.invokevirtual 210, 3) := by decide +kernel
theorem dX12_placeIn_45 : decode cX12_placeIn 45 = .ok (.ireturn, 1) := by decide +kernel
theorem dX12_placeIn_46 : decode cX12_placeIn 46 = .ok (.iload_n 1, 1) := by decide +kernel
theorem dX12_placeIn_47 : decode cX12_placeIn 47 = .ok (.ifCond .ne 14, 3) := by decide +kernel
theorem dX12_placeIn_50 : decode cX12_placeIn 50 = .ok (.aload_n 0, 1) := by decide +kernel
theorem dX12_placeIn_51 : decode cX12_placeIn 51 = .ok (.iconst 0, 1) := by decide +kernel
theorem dX12_placeIn_52 : decode cX12_placeIn 52 = .ok (.aload_n 0, 1) := by decide +kernel
theorem dX12_placeIn_53 : decode cX12_placeIn 53 = .ok (.getfield 207, 3) := by decide +kernel
theorem dX12_placeIn_56 : decode cX12_placeIn 56 = .ok (.iload_n 2, 1) := by decide +kernel
theorem dX12_placeIn_57 : decode cX12_placeIn 57 = .ok (.invokevirtual 210, 3) := by decide +kernel
theorem dX12_placeIn_60 : decode cX12_placeIn 60 = .ok (.ireturn, 1) := by decide +kernel
theorem dX12_placeIn_61 : decode cX12_placeIn 61 = .ok (.iconst 0, 1) := by decide +kernel
theorem dX12_placeIn_62 : decode cX12_placeIn 62 = .ok (.istore 5, 2) := by decide +kernel
theorem dX12_placeIn_64 : decode cX12_placeIn 64 = .ok (.iload 5, 2) := by decide +kernel
theorem dX12_placeIn_66 : decode cX12_placeIn 66 = .ok (.aload_n 0, 1) := by decide +kernel
theorem dX12_placeIn_67 : decode cX12_placeIn 67 = .ok (.getfield 207, 3) := by decide +kernel
theorem dX12_placeIn_70 : decode cX12_placeIn 70 = .ok (.if_icmp .ge 89, 3) := by decide +kernel
theorem dX12_placeIn_73 : decode cX12_placeIn 73 = .ok (.aload_n 0, 1) := by decide +kernel
theorem dX12_placeIn_74 : decode cX12_placeIn 74 = .ok (.getfield 69, 3) := by decide +kernel
theorem dX12_placeIn_77 : decode cX12_placeIn 77 = .ok (.iload 5, 2) := by decide +kernel
theorem dX12_placeIn_79 : decode cX12_placeIn 79 = .ok (.iaload, 1) := by decide +kernel
theorem dX12_placeIn_80 : decode cX12_placeIn 80 = .ok (.ifCond .ge 73, 3) := by decide +kernel
theorem dX12_placeIn_83 : decode cX12_placeIn 83 = .ok (.iload 5, 2) := by decide +kernel
theorem dX12_placeIn_85 : decode cX12_placeIn 85 = .ok (.ifCond .le 18, 3) := by decide +kernel
theorem dX12_placeIn_88 : decode cX12_placeIn 88 = .ok (.aload_n 0, 1) := by decide +kernel
theorem dX12_placeIn_89 : decode cX12_placeIn 89 = .ok (.getfield 69, 3) := by decide +kernel
theorem dX12_placeIn_92 : decode cX12_placeIn 92 = .ok (.iload 5, 2) := by decide +kernel
theorem dX12_placeIn_94 : decode cX12_placeIn 94 = .ok (.iconst 1, 1) := by decide +kernel
theorem dX12_placeIn_95 : decode cX12_placeIn 95 = .ok (.isub, 1) := by decide +kernel
theorem dX12_placeIn_96 : decode cX12_placeIn 96 = .ok (.iaload, 1) := by decide +kernel
theorem dX12_placeIn_97 : decode cX12_placeIn 97 = .ok (.ifCond .ge 6, 3) := by decide +kernel
theorem dX12_placeIn_100 : decode cX12_placeIn 100 = .ok (.goto 53, 3) := by decide +kernel
theorem dX12_placeIn_103 : decode cX12_placeIn 103 = .ok (.aload_n 0, 1) := by decide +kernel
theorem dX12_placeIn_104 : decode cX12_placeIn 104 = .ok (.iload 5, 2) := by decide +kernel
theorem dX12_placeIn_106 : decode cX12_placeIn 106 = .ok (.invokevirtual 213, 3) := by decide +kernel
theorem dX12_placeIn_109 : decode cX12_placeIn 109 = .ok (.istore 6, 2) := by decide +kernel
theorem dX12_placeIn_111 : decode cX12_placeIn 111 = .ok (.iload 6, 2) := by decide +kernel
theorem dX12_placeIn_113 : decode cX12_placeIn 113 = .ok (.iload_n 2, 1) := by decide +kernel
theorem dX12_placeIn_114 : decode cX12_placeIn 114 = .ok (.if_icmp .lt 39, 3) := by decide +kernel
theorem dX12_placeIn_117 : decode cX12_placeIn 117 = .ok (.iload_n 3, 1) := by decide +kernel
theorem dX12_placeIn_118 : decode cX12_placeIn 118 = .ok (.ifCond .lt 28, 3) := by decide +kernel
theorem dX12_placeIn_121 : decode cX12_placeIn 121 = .ok (.iload_n 1, 1) := by decide +kernel
theorem dX12_placeIn_122 : decode cX12_placeIn 122 = .ok (.iconst 2, 1) := by decide +kernel
theorem dX12_placeIn_123 : decode cX12_placeIn 123 = .ok (.if_icmp .ne 13, 3) := by decide +kernel
theorem dX12_placeIn_126 : decode cX12_placeIn 126 = .ok (.iload 6, 2) := by decide +kernel
theorem dX12_placeIn_128 : decode cX12_placeIn 128 = .ok (.iload 4, 2) := by decide +kernel
theorem dX12_placeIn_130 : decode cX12_placeIn 130 = .ok (.if_icmp .lt 16, 3) := by decide +kernel
theorem dX12_placeIn_133 : decode cX12_placeIn 133 = .ok (.goto 20, 3) := by decide +kernel
theorem dX12_placeIn_136 : decode cX12_placeIn 136 = .ok (.iload 6, 2) := by decide +kernel
theorem dX12_placeIn_138 : decode cX12_placeIn 138 = .ok (.iload 4, 2) := by decide +kernel
theorem dX12_placeIn_140 : decode cX12_placeIn 140 = .ok (.if_icmp .gt 6, 3) := by decide +kernel
theorem dX12_placeIn_143 : decode cX12_placeIn 143 = .ok (.goto 10, 3) := by decide +kernel
theorem dX12_placeIn_146 : decode cX12_placeIn 146 = .ok (.iload 5, 2) := by decide +kernel
theorem dX12_placeIn_148 : decode cX12_placeIn 148 = .ok (.istore_n 3, 1) := by decide +kernel
theorem dX12_placeIn_149 : decode cX12_placeIn 149 = .ok (.iload 6, 2) := by decide +kernel
theorem dX12_placeIn_151 : decode cX12_placeIn 151 = .ok (.istore 4, 2) := by decide +kernel
theorem dX12_placeIn_153 : decode cX12_placeIn 153 = .ok (.iinc 5 1, 3) := by decide +kernel
theorem dX12_placeIn_156 : decode cX12_placeIn 156 = .ok (.goto (-92), 3) := by decide +kernel
theorem dX12_placeIn_159 : decode cX12_placeIn 159 = .ok (.iload_n 3, 1) := by decide +kernel
theorem dX12_placeIn_160 : decode cX12_placeIn 160 = .ok (.ireturn, 1) := by decide +kernel
theorem dX12_freeAt_0 : decode cX12_freeAt 0 = .ok (.iload_n 1, 1) := by decide +kernel
theorem dX12_freeAt_1 : decode cX12_freeAt 1 = .ok (.istore_n 2, 1) := by decide +kernel
theorem dX12_freeAt_2 : decode cX12_freeAt 2 = .ok (.iload_n 2, 1) := by decide +kernel
theorem dX12_freeAt_3 : decode cX12_freeAt 3 = .ok (.aload_n 0, 1) := by decide +kernel
theorem dX12_freeAt_4 : decode cX12_freeAt 4 = .ok (.getfield 207, 3) := by decide +kernel
theorem dX12_freeAt_7 : decode cX12_freeAt 7 = .ok (.if_icmp .ge 18, 3) := by decide +kernel
theorem dX12_freeAt_10 : decode cX12_freeAt 10 = .ok (.aload_n 0, 1) := by decide +kernel
theorem dX12_freeAt_11 : decode cX12_freeAt 11 = .ok (.getfield 69, 3) := by decide +kernel
theorem dX12_freeAt_14 : decode cX12_freeAt 14 = .ok (.iload_n 2, 1) := by decide +kernel
theorem dX12_freeAt_15 : decode cX12_freeAt 15 = .ok (.iaload, 1) := by decide +kernel
theorem dX12_freeAt_16 : decode cX12_freeAt 16 = .ok (.ifCond .ge 9, 3) := by decide +kernel
theorem dX12_freeAt_19 : decode cX12_freeAt 19 = .ok (.iinc 2 1, 3) := by decide +kernel
theorem dX12_freeAt_22 : decode cX12_freeAt 22 = .ok (.goto (-20), 3) := by decide +kernel
theorem dX12_freeAt_25 : decode cX12_freeAt 25 = .ok (.iload_n 2, 1) := by decide +kernel
theorem dX12_freeAt_26 : decode cX12_freeAt 26 = .ok (.iload_n 1, 1) := by decide +kernel
theorem dX12_freeAt_27 : decode cX12_freeAt 27 = .ok (.isub, 1) := by decide +kernel
theorem dX12_freeAt_28 : decode cX12_freeAt 28 = .ok (.ireturn, 1) := by decide +kernel
set_option maxRecDepth 20000 in
theorem ggX12_fitFrom_X12_freeAt : GoodIn wsX12_fitFrom wsX12_freeAt := by first | exact goodIn_sub (show zy_S _ wsX12_fitFrom from (zy_c (zy_t (zy_l (zy_t (zy_t (zy_t (zy_t zy_h)))))) (zy_a (zy_c (zy_t (zy_l (zy_t (zy_t (zy_t (zy_t (zy_t zy_h))))))) (zy_c (zy_t (zy_l (zy_t (zy_t (zy_t (zy_t (zy_t (zy_t zy_h)))))))) zy_n)) (zy_p (fun _ h => (zy_t (zy_r h))))))) (by decide +kernel) | exact goodIn_r _ [5, 6, 7, 8, 9, 10, 11, 12, 13, 14, 15, 16, 17, 18, 19, 20, 21, 22, 23, 24, 25, 26, 27, 28, 29, 30, 31, 32, 33, 34, 35, 36, 37, 38, 39, 40, 41, 42, 43] (by decide +kernel) (by decide +kernel)
set_option maxRecDepth 20000 in
theorem gX12_fitFrom_X12_freeAt : GoodIn wsX12_fitFrom (wsV RX12 213 RX12 yX12_freeAt wsX12_freeAt) := by first | exact goodIn_app (goodIn_sub (show zy_S _ wsX12_fitFrom from (zy_c (zy_t (zy_l zy_h)) (zy_c (zy_t (zy_l (zy_t zy_h))) (zy_c (zy_t (zy_l (zy_t (zy_t zy_h)))) (zy_c (zy_t (zy_l (zy_t (zy_t (zy_t zy_h))))) zy_n))))) (by decide +kernel)) ggX12_fitFrom_X12_freeAt | exact goodIn_app (goodIn_of _ (by decide +kernel)) ggX12_fitFrom_X12_freeAt
theorem dX12_fitFrom_0 : decode cX12_fitFrom 0 = .ok (.iload_n 1, 1) := by decide +kernel
theorem dX12_fitFrom_1 : decode cX12_fitFrom 1 = .ok (.istore 4, 2) := by decide +kernel
theorem dX12_fitFrom_3 : decode cX12_fitFrom 3 = .ok (.iload 4, 2) := by decide +kernel
theorem dX12_fitFrom_5 : decode cX12_fitFrom 5 = .ok (.iload_n 2, 1) := by decide +kernel
theorem dX12_fitFrom_6 : decode cX12_fitFrom 6 = .ok (.if_icmp .ge 32, 3) := by decide +kernel
theorem dX12_fitFrom_9 : decode cX12_fitFrom 9 = .ok (.aload_n 0, 1) := by decide +kernel
theorem dX12_fitFrom_10 : decode cX12_fitFrom 10 = .ok (.iload 4, 2) := by decide +kernel
theorem dX12_fitFrom_12 : decode cX12_fitFrom 12 = .ok (.invokevirtual 213, 3) := by decide +kernel
theorem dX12_fitFrom_15 : decode cX12_fitFrom 15 = .ok (.istore 5, 2) := by decide +kernel
theorem dX12_fitFrom_17 : decode cX12_fitFrom 17 = .ok (.iload 5, 2) := by decide +kernel
theorem dX12_fitFrom_19 : decode cX12_fitFrom 19 = .ok (.iload_n 3, 1) := by decide +kernel
theorem dX12_fitFrom_20 : decode cX12_fitFrom 20 = .ok (.if_icmp .lt 6, 3) := by decide +kernel
theorem dX12_fitFrom_23 : decode cX12_fitFrom 23 = .ok (.iload 4, 2) := by decide +kernel
theorem dX12_fitFrom_25 : decode cX12_fitFrom 25 = .ok (.ireturn, 1) := by decide +kernel
theorem dX12_fitFrom_26 : decode cX12_fitFrom 26 = .ok (.iload 4, 2) := by decide +kernel
theorem dX12_fitFrom_28 : decode cX12_fitFrom 28 = .ok (.iload 5, 2) := by decide +kernel
theorem dX12_fitFrom_30 : decode cX12_fitFrom 30 = .ok (.iconst 1, 1) := by decide +kernel
theorem dX12_fitFrom_31 : decode cX12_fitFrom 31 = .ok (.iadd, 1) := by decide +kernel
theorem dX12_fitFrom_32 : decode cX12_fitFrom 32 = .ok (.iadd, 1) := by decide +kernel
theorem dX12_fitFrom_33 : decode cX12_fitFrom 33 = .ok (.istore 4, 2) := by decide +kernel
theorem dX12_fitFrom_35 : decode cX12_fitFrom 35 = .ok (.goto (-32), 3) := by decide +kernel
theorem dX12_fitFrom_38 : decode cX12_fitFrom 38 = .ok (.iconst (-1), 1) := by decide +kernel
theorem dX12_fitFrom_39 : decode cX12_fitFrom 39 = .ok (.ireturn, 1) := by decide +kernel
set_option maxRecDepth 20000 in
theorem ggX12_come_X12_roomNumber : GoodIn wsX12_come wsX12_roomNumber := by first | exact goodIn_sub (show zy_S _ wsX12_come from (zy_c (zy_t (zy_l (zy_t (zy_t (zy_t (zy_t (zy_t (zy_t (zy_t (zy_t (zy_t zy_h))))))))))) (zy_a (zy_c (zy_t (zy_l (zy_t (zy_t (zy_t (zy_t (zy_t (zy_t (zy_t (zy_t (zy_t (zy_t zy_h)))))))))))) (zy_c (zy_t (zy_l (zy_t (zy_t (zy_t (zy_t (zy_t (zy_t (zy_t (zy_t (zy_t (zy_t (zy_t zy_h))))))))))))) (zy_c (zy_t (zy_l (zy_t (zy_t (zy_t (zy_t (zy_t (zy_t (zy_t (zy_t (zy_t (zy_t (zy_t (zy_t zy_h)))))))))))))) (zy_c (zy_t (zy_l (zy_t (zy_t (zy_t (zy_t (zy_t (zy_t (zy_t (zy_t (zy_t (zy_t (zy_t (zy_t (zy_t zy_h))))))))))))))) zy_n)))) (zy_p (fun _ h => (zy_t (zy_r h))))))) (by decide +kernel) | exact goodIn_r _ [10, 11, 12, 13, 14, 15, 16, 17, 18, 19, 20, 21, 22, 23, 24, 25, 26, 27, 28, 29, 30, 31, 32, 33, 34, 35, 36, 37, 38, 39, 40, 41, 42, 43, 44, 45, 46, 47, 48, 49, 50] (by decide +kernel) (by decide +kernel)
set_option maxRecDepth 20000 in
theorem gX12_come_X12_roomNumber : GoodIn wsX12_come (wsV RX12 216 RX12 yX12_roomNumber wsX12_roomNumber) := by first | exact goodIn_app (goodIn_sub (show zy_S _ wsX12_come from (zy_c (zy_t (zy_l (zy_t (zy_t (zy_t (zy_t (zy_t zy_h))))))) (zy_c (zy_t (zy_l (zy_t (zy_t (zy_t (zy_t (zy_t (zy_t zy_h)))))))) (zy_c (zy_t (zy_l (zy_t (zy_t (zy_t (zy_t (zy_t (zy_t (zy_t zy_h))))))))) (zy_c (zy_t (zy_l (zy_t (zy_t (zy_t (zy_t (zy_t (zy_t (zy_t (zy_t zy_h)))))))))) zy_n))))) (by decide +kernel)) ggX12_come_X12_roomNumber | exact goodIn_app (goodIn_of _ (by decide +kernel)) ggX12_come_X12_roomNumber
theorem dX12_come_0 : decode cX12_come 0 = .ok (.aload_n 0, 1) := by decide +kernel
theorem dX12_come_1 : decode cX12_come 1 = .ok (.invokevirtual 216, 3) := by decide +kernel
theorem dX12_come_4 : decode cX12_come 4 = .ok (.lstore_n 1, 1) := by decide +kernel
theorem dX12_come_5 : decode cX12_come 5 = .ok (.lload_n 1, 1) := by decide +kernel
theorem dX12_come_6 : decode cX12_come 6 = .ok (.ldc2_w 220, 3) := by decide +kernel
theorem dX12_come_9 : decode cX12_come 9 = .ok (.lrem, 1) := by decide +kernel
theorem dX12_come_10 : decode cX12_come 10 = .ok (.l2i, 1) := by decide +kernel
theorem dX12_come_11 : decode cX12_come 11 = .ok (.istore_n 3, 1) := by decide +kernel
theorem dX12_come_12 : decode cX12_come 12 = .ok (.aload_n 0, 1) := by decide +kernel
theorem dX12_come_13 : decode cX12_come 13 = .ok (.getfield 66, 3) := by decide +kernel
theorem dX12_come_16 : decode cX12_come 16 = .ok (.iload_n 3, 1) := by decide +kernel
theorem dX12_come_17 : decode cX12_come 17 = .ok (.iaload, 1) := by decide +kernel
theorem dX12_come_18 : decode cX12_come 18 = .ok (.ifCond .le 31, 3) := by decide +kernel
theorem dX12_come_21 : decode cX12_come 21 = .ok (.aload_n 0, 1) := by decide +kernel
theorem dX12_come_22 : decode cX12_come 22 = .ok (.getfield 61, 3) := by decide +kernel
theorem dX12_come_25 : decode cX12_come 25 = .ok (.aload_n 0, 1) := by decide +kernel
theorem dX12_come_26 : decode cX12_come 26 = .ok (.getfield 66, 3) := by decide +kernel
theorem dX12_come_29 : decode cX12_come 29 = .ok (.iload_n 3, 1) := by decide +kernel
theorem dX12_come_30 : decode cX12_come 30 = .ok (.iaload, 1) := by decide +kernel
theorem dX12_come_31 : decode cX12_come 31 = .ok (.iconst 1, 1) := by decide +kernel
theorem dX12_come_32 : decode cX12_come 32 = .ok (.isub, 1) := by decide +kernel
theorem dX12_come_33 : decode cX12_come 33 = .ok (.laload, 1) := by decide +kernel
theorem dX12_come_34 : decode cX12_come 34 = .ok (.lload_n 1, 1) := by decide +kernel
theorem dX12_come_35 : decode cX12_come 35 = .ok (.lcmp, 1) := by decide +kernel
theorem dX12_come_36 : decode cX12_come 36 = .ok (.ifCond .eq 13, 3) := by decide +kernel
theorem dX12_come_39 : decode cX12_come 39 = .ok (.iload_n 3, 1) := by decide +kernel
theorem dX12_come_40 : decode cX12_come 40 = .ok (.iconst 1, 1) := by decide +kernel
theorem dX12_come_41 : decode cX12_come 41 = .ok (.iadd, 1) := by decide +kernel
theorem dX12_come_42 : decode cX12_come 42 = .ok (.ldc 222, 2) := by decide +kernel
theorem dX12_come_44 : decode cX12_come 44 = .ok (.iand, 1) := by decide +kernel
theorem dX12_come_45 : decode cX12_come 45 = .ok (.istore_n 3, 1) := by decide +kernel
theorem dX12_come_46 : decode cX12_come 46 = .ok (.goto (-34), 3) := by decide +kernel
theorem dX12_come_49 : decode cX12_come 49 = .ok (.aload_n 0, 1) := by decide +kernel
theorem dX12_come_50 : decode cX12_come 50 = .ok (.getfield 66, 3) := by decide +kernel
theorem dX12_come_53 : decode cX12_come 53 = .ok (.iload_n 3, 1) := by decide +kernel
theorem dX12_come_54 : decode cX12_come 54 = .ok (.iaload, 1) := by decide +kernel
theorem dX12_come_55 : decode cX12_come 55 = .ok (.ifCond .le 5, 3) := by decide +kernel
theorem dX12_come_58 : decode cX12_come 58 = .ok (.iconst 1, 1) := by decide +kernel
theorem dX12_come_59 : decode cX12_come 59 = .ok (.ireturn, 1) := by decide +kernel
theorem dX12_come_60 : decode cX12_come 60 = .ok (.aload_n 0, 1) := by decide +kernel
theorem dX12_come_61 : decode cX12_come 61 = .ok (.getfield 223, 3) := by decide +kernel
theorem dX12_come_64 : decode cX12_come 64 = .ok (.sipush 20000, 3) := by decide +kernel
theorem dX12_come_67 : decode cX12_come 67 = .ok (.if_icmp .ne 5, 3) := by decide +kernel
theorem dX12_come_70 : decode cX12_come 70 = .ok (.iconst 0, 1) := by decide +kernel
theorem dX12_come_71 : decode cX12_come 71 = .ok (.ireturn, 1) := by decide +kernel
theorem dX12_come_72 : decode cX12_come 72 = .ok (.aload_n 0, 1) := by decide +kernel
theorem dX12_come_73 : decode cX12_come 73 = .ok (.getfield 61, 3) := by decide +kernel
theorem dX12_come_76 : decode cX12_come 76 = .ok (.aload_n 0, 1) := by decide +kernel
theorem dX12_come_77 : decode cX12_come 77 = .ok (.getfield 223, 3) := by decide +kernel
theorem dX12_come_80 : decode cX12_come 80 = .ok (.lload_n 1, 1) := by decide +kernel
theorem dX12_come_81 : decode cX12_come 81 = .ok (.lastore, 1) := by decide +kernel
theorem dX12_come_82 : decode cX12_come 82 = .ok (.aload_n 0, 1) := by decide +kernel
theorem dX12_come_83 : decode cX12_come 83 = .ok (.dup, 1) := by decide +kernel
theorem dX12_come_84 : decode cX12_come 84 = .ok (.getfield 223, 3) := by decide +kernel
theorem dX12_come_87 : decode cX12_come 87 = .ok (.iconst 1, 1) := by decide +kernel
theorem dX12_come_88 : decode cX12_come 88 = .ok (.iadd, 1) := by decide +kernel
theorem dX12_come_89 : decode cX12_come 89 = .ok (.putfield 223, 3) := by decide +kernel
theorem dX12_come_92 : decode cX12_come 92 = .ok (.aload_n 0, 1) := by decide +kernel
theorem dX12_come_93 : decode cX12_come 93 = .ok (.getfield 66, 3) := by decide +kernel
theorem dX12_come_96 : decode cX12_come 96 = .ok (.iload_n 3, 1) := by decide +kernel
theorem dX12_come_97 : decode cX12_come 97 = .ok (.aload_n 0, 1) := by decide +kernel
theorem dX12_come_98 : decode cX12_come 98 = .ok (.getfield 223, 3) := by decide +kernel
theorem dX12_come_101 : decode cX12_come 101 = .ok (.iastore, 1) := by decide +kernel
theorem dX12_come_102 : decode cX12_come 102 = .ok (.iconst 1, 1) := by decide +kernel
theorem dX12_come_103 : decode cX12_come 103 = .ok (.ireturn, 1) := by decide +kernel
set_option maxRecDepth 20000 in
theorem ggX12_holds_X12_come : GoodIn wsX12_holds wsX12_come := by first | exact goodIn_sub (show zy_S _ wsX12_holds from (zy_c (zy_t (zy_l (zy_l (zy_t (zy_t (zy_t (zy_t (zy_t (zy_t (zy_t (zy_t (zy_t (zy_t (zy_t (zy_t zy_h))))))))))))))) (zy_a (zy_c (zy_t (zy_l (zy_l (zy_t (zy_t (zy_t (zy_t (zy_t (zy_t (zy_t (zy_t (zy_t (zy_t (zy_t (zy_t (zy_t zy_h)))))))))))))))) (zy_c (zy_t (zy_l (zy_l (zy_t zy_h)))) (zy_c (zy_t (zy_l (zy_l (zy_t (zy_t (zy_t (zy_t (zy_t (zy_t zy_h))))))))) (zy_c (zy_t (zy_l (zy_l (zy_t (zy_t (zy_t (zy_t (zy_t (zy_t (zy_t (zy_t (zy_t (zy_t (zy_t (zy_t (zy_t (zy_t zy_h))))))))))))))))) (zy_c (zy_t (zy_l (zy_l (zy_t (zy_t zy_h))))) (zy_c (zy_t (zy_l (zy_l (zy_t (zy_t (zy_t (zy_t (zy_t (zy_t (zy_t (zy_t (zy_t (zy_t (zy_t (zy_t (zy_t (zy_t (zy_t zy_h)))))))))))))))))) (zy_c (zy_t (zy_l (zy_l (zy_t (zy_t (zy_t (zy_t (zy_t (zy_t (zy_t (zy_t (zy_t (zy_t (zy_t (zy_t (zy_t (zy_t (zy_t (zy_t zy_h))))))))))))))))))) (zy_c (zy_t (zy_l (zy_l (zy_t (zy_t (zy_t (zy_t (zy_t (zy_t (zy_t (zy_t (zy_t (zy_t (zy_t (zy_t (zy_t (zy_t (zy_t (zy_t (zy_t zy_h)))))))))))))))))))) (zy_c (zy_t (zy_l (zy_l (zy_t (zy_t (zy_t (zy_t (zy_t (zy_t (zy_t (zy_t (zy_t (zy_t (zy_t zy_h)))))))))))))) (zy_c (zy_t (zy_l (zy_l (zy_t (zy_t (zy_t (zy_t (zy_t (zy_t (zy_t (zy_t (zy_t (zy_t (zy_t (zy_t (zy_t (zy_t (zy_t (zy_t (zy_t (zy_t zy_h))))))))))))))))))))) (zy_c (zy_t (zy_l (zy_l (zy_t (zy_t (zy_t (zy_t (zy_t (zy_t (zy_t (zy_t (zy_t (zy_t (zy_t (zy_t (zy_t (zy_t (zy_t (zy_t (zy_t (zy_t (zy_t zy_h)))))))))))))))))))))) (zy_c (zy_t (zy_l (zy_l (zy_t (zy_t (zy_t (zy_t (zy_t zy_h)))))))) (zy_c (zy_t (zy_l (zy_l (zy_t (zy_t (zy_t (zy_t (zy_t (zy_t (zy_t (zy_t (zy_t (zy_t (zy_t (zy_t (zy_t (zy_t (zy_t (zy_t (zy_t (zy_t (zy_t (zy_t zy_h))))))))))))))))))))))) (zy_c (zy_t (zy_l (zy_l (zy_t (zy_t (zy_t (zy_t zy_h))))))) zy_n)))))))))))))) (zy_p (fun _ h => (zy_t (zy_r h))))))) (by decide +kernel) | exact goodIn_r _ [13, 14, 2, 7, 15, 3, 16, 17, 18, 12, 19, 20, 6, 21, 5, 38, 39, 40, 41, 42, 43, 44, 45, 46, 47, 48, 49, 50, 51, 52, 53, 54, 55, 56, 57, 58, 59, 60, 61, 62, 63, 64, 65, 66, 67, 68, 69, 70, 71, 72, 73] (by decide +kernel) (by decide +kernel)
set_option maxRecDepth 20000 in
theorem gX12_holds_X12_come : GoodIn wsX12_holds (wsV RX12 226 RX12 yX12_come wsX12_come) := by first | exact goodIn_app (goodIn_sub (show zy_S _ wsX12_holds from (zy_c (zy_t (zy_l (zy_l (zy_t (zy_t (zy_t (zy_t (zy_t (zy_t (zy_t (zy_t zy_h))))))))))) (zy_c (zy_t (zy_l (zy_l (zy_t (zy_t (zy_t (zy_t (zy_t (zy_t (zy_t (zy_t (zy_t zy_h)))))))))))) (zy_c (zy_t (zy_l (zy_l (zy_t (zy_t (zy_t (zy_t (zy_t (zy_t (zy_t (zy_t (zy_t (zy_t zy_h))))))))))))) (zy_c (zy_t (zy_l (zy_l (zy_t (zy_t (zy_t (zy_t (zy_t (zy_t (zy_t (zy_t (zy_t (zy_t (zy_t zy_h)))))))))))))) zy_n))))) (by decide +kernel)) ggX12_holds_X12_come | exact goodIn_app (goodIn_of _ (by decide +kernel)) ggX12_holds_X12_come
set_option maxRecDepth 20000 in
theorem ggX12_holds_X12_take : GoodIn wsX12_holds wsX12_take := by first | exact goodIn_sub (show zy_S _ wsX12_holds from (zy_c (zy_t (zy_l (zy_r zy_h))) (zy_a (zy_c (zy_t (zy_l (zy_l (zy_t (zy_t (zy_t (zy_t (zy_t (zy_t (zy_t (zy_t (zy_t (zy_t (zy_t (zy_t (zy_t (zy_t (zy_t (zy_t (zy_t (zy_t (zy_t (zy_t zy_h))))))))))))))))))))))) (zy_c (zy_t (zy_l (zy_l (zy_t (zy_t (zy_t (zy_t zy_h))))))) (zy_c (zy_t (zy_l (zy_l (zy_t (zy_t (zy_t (zy_t (zy_t (zy_t (zy_t zy_h)))))))))) (zy_c (zy_t (zy_l (zy_l (zy_t (zy_t (zy_t (zy_t (zy_t zy_h)))))))) (zy_c (zy_t (zy_l (zy_l (zy_t (zy_t (zy_t (zy_t (zy_t (zy_t (zy_t (zy_t (zy_t (zy_t (zy_t (zy_t (zy_t (zy_t (zy_t (zy_t (zy_t (zy_t (zy_t zy_h)))))))))))))))))))))) zy_n))))) (zy_p (fun _ h => (zy_t (zy_r h))))))) (by decide +kernel) | exact goodIn_r _ [25, 21, 5, 8, 6, 20, 38, 39, 40, 41, 42, 43, 44, 45, 46, 47, 48, 49, 50, 51, 52, 53, 54, 55, 56, 57, 58, 59, 60, 61, 62, 63, 64, 65, 66, 67, 68, 69, 70, 71, 72, 73] (by decide +kernel) (by decide +kernel)
set_option maxRecDepth 20000 in
theorem gX12_holds_X12_take : GoodIn wsX12_holds (wsV RX12 230 RX12 yX12_take wsX12_take) := by first | exact goodIn_app (goodIn_sub (show zy_S _ wsX12_holds from (zy_c (zy_t (zy_l (zy_l (zy_t (zy_t (zy_t (zy_t (zy_t (zy_t (zy_t (zy_t (zy_t (zy_t (zy_t (zy_t (zy_t (zy_t (zy_t (zy_t (zy_t (zy_t (zy_t (zy_t (zy_t zy_h)))))))))))))))))))))))) (zy_c (zy_t (zy_l (zy_l (zy_t (zy_t (zy_t (zy_t (zy_t (zy_t (zy_t (zy_t (zy_t (zy_t (zy_t (zy_t (zy_t (zy_t (zy_t (zy_t (zy_t (zy_t (zy_t (zy_t (zy_t (zy_t zy_h))))))))))))))))))))))))) (zy_c (zy_t (zy_l (zy_l (zy_t (zy_t (zy_t (zy_t (zy_t (zy_t (zy_t (zy_t (zy_t (zy_t (zy_t (zy_t (zy_t (zy_t (zy_t (zy_t (zy_t (zy_t (zy_t (zy_t (zy_t (zy_t (zy_t zy_h)))))))))))))))))))))))))) (zy_c (zy_t (zy_l (zy_l (zy_t (zy_t (zy_t (zy_t (zy_t (zy_t (zy_t (zy_t (zy_t (zy_t (zy_t zy_h)))))))))))))) zy_n))))) (by decide +kernel)) ggX12_holds_X12_take | exact goodIn_app (goodIn_of _ (by decide +kernel)) ggX12_holds_X12_take
set_option maxRecDepth 20000 in
theorem ggX12_holds_X12_placeIn : GoodIn wsX12_holds wsX12_placeIn := by first | exact goodIn_sub (show zy_S _ wsX12_holds from (zy_c (zy_t (zy_l (zy_r (zy_t (zy_t (zy_t (zy_t zy_h))))))) (zy_a (zy_c (zy_t (zy_l (zy_l (zy_t (zy_t (zy_t (zy_t zy_h))))))) (zy_c (zy_t (zy_l (zy_l (zy_t (zy_t (zy_t zy_h)))))) (zy_c (zy_t (zy_l (zy_l (zy_t (zy_t (zy_t (zy_t (zy_t zy_h)))))))) (zy_c (zy_t (zy_l (zy_r (zy_t (zy_t (zy_t (zy_t (zy_t zy_h)))))))) (zy_c (zy_t (zy_l (zy_r (zy_t (zy_t (zy_t (zy_t (zy_t (zy_t zy_h))))))))) (zy_c (zy_t (zy_l (zy_r (zy_t (zy_t (zy_t (zy_t (zy_t (zy_t (zy_t zy_h)))))))))) (zy_c (zy_t (zy_l (zy_l (zy_t (zy_t (zy_t (zy_t (zy_t (zy_t (zy_t (zy_t (zy_t (zy_t (zy_t zy_h)))))))))))))) (zy_c (zy_t (zy_l (zy_r (zy_t (zy_t (zy_t (zy_t (zy_t (zy_t (zy_t (zy_t zy_h))))))))))) (zy_c (zy_t (zy_l (zy_r (zy_t (zy_t (zy_t (zy_t (zy_t (zy_t (zy_t (zy_t (zy_t zy_h)))))))))))) (zy_c (zy_t (zy_l (zy_r (zy_t (zy_t (zy_t (zy_t (zy_t (zy_t (zy_t (zy_t (zy_t (zy_t zy_h))))))))))))) (zy_c (zy_t (zy_l (zy_r (zy_t (zy_t (zy_t (zy_t (zy_t (zy_t (zy_t (zy_t (zy_t (zy_t (zy_t zy_h)))))))))))))) (zy_c (zy_t (zy_l (zy_r (zy_t (zy_t (zy_t (zy_t (zy_t (zy_t (zy_t (zy_t (zy_t (zy_t (zy_t (zy_t zy_h))))))))))))))) zy_n)))))))))))) (zy_p (fun _ h => (zy_t (zy_r h))))))) (by decide +kernel) | exact goodIn_r _ [29, 5, 4, 6, 30, 31, 32, 12, 33, 34, 35, 36, 37, 38, 39, 40, 41, 42, 43, 44, 45, 46, 47, 48, 49, 50, 51, 52, 53, 54, 55, 56, 57, 58, 59, 60, 61, 62, 63, 64, 65, 66, 67, 68, 69, 70, 71, 72, 73] (by decide +kernel) (by decide +kernel)
set_option maxRecDepth 20000 in
theorem gX12_holds_X12_placeIn : GoodIn wsX12_holds (wsV RX12 234 RX12 yX12_placeIn wsX12_placeIn) := by first | exact goodIn_app (goodIn_sub (show zy_S _ wsX12_holds from (zy_c (zy_t (zy_l (zy_r (zy_t zy_h)))) (zy_c (zy_t (zy_l (zy_r (zy_t (zy_t zy_h))))) (zy_c (zy_t (zy_l (zy_r (zy_t (zy_t (zy_t zy_h)))))) (zy_c (zy_t (zy_l (zy_l (zy_t (zy_t (zy_t (zy_t (zy_t (zy_t (zy_t (zy_t (zy_t (zy_t (zy_t zy_h)))))))))))))) zy_n))))) (by decide +kernel)) ggX12_holds_X12_placeIn | exact goodIn_app (goodIn_of _ (by decide +kernel)) ggX12_holds_X12_placeIn
theorem dX12_holds_0 : decode cX12_holds 0 = .ok (.iconst 0, 1) := by decide +kernel
theorem dX12_holds_1 : decode cX12_holds 1 = .ok (.istore 5, 2) := by decide +kernel
theorem dX12_holds_3 : decode cX12_holds 3 = .ok (.iload 5, 2) := by decide +kernel
theorem dX12_holds_5 : decode cX12_holds 5 = .ok (.ldc 65, 2) := by decide +kernel
theorem dX12_holds_7 : decode cX12_holds 7 = .ok (.if_icmp .ge 17, 3) := by decide +kernel
theorem dX12_holds_10 : decode cX12_holds 10 = .ok (.aload_n 0, 1) := by decide +kernel
theorem dX12_holds_11 : decode cX12_holds 11 = .ok (.getfield 66, 3) := by decide +kernel
theorem dX12_holds_14 : decode cX12_holds 14 = .ok (.iload 5, 2) := by decide +kernel
theorem dX12_holds_16 : decode cX12_holds 16 = .ok (.iconst 0, 1) := by decide +kernel
theorem dX12_holds_17 : decode cX12_holds 17 = .ok (.iastore, 1) := by decide +kernel
theorem dX12_holds_18 : decode cX12_holds 18 = .ok (.iinc 5 1, 3) := by decide +kernel
theorem dX12_holds_21 : decode cX12_holds 21 = .ok (.goto (-18), 3) := by decide +kernel
theorem dX12_holds_24 : decode cX12_holds 24 = .ok (.aload_n 0, 1) := by decide +kernel
theorem dX12_holds_25 : decode cX12_holds 25 = .ok (.iconst 0, 1) := by decide +kernel
theorem dX12_holds_26 : decode cX12_holds 26 = .ok (.putfield 223, 3) := by decide +kernel
theorem dX12_holds_29 : decode cX12_holds 29 = .ok (.aload_n 0, 1) := by decide +kernel
theorem dX12_holds_30 : decode cX12_holds 30 = .ok (.iload 4, 2) := by decide +kernel
theorem dX12_holds_32 : decode cX12_holds 32 = .ok (.putfield 207, 3) := by decide +kernel
theorem dX12_holds_35 : decode cX12_holds 35 = .ok (.aload_n 0, 1) := by decide +kernel
theorem dX12_holds_36 : decode cX12_holds 36 = .ok (.iconst 0, 1) := by decide +kernel
theorem dX12_holds_37 : decode cX12_holds 37 = .ok (.putfield 199, 3) := by decide +kernel
theorem dX12_holds_40 : decode cX12_holds 40 = .ok (.iconst 0, 1) := by decide +kernel
theorem dX12_holds_41 : decode cX12_holds 41 = .ok (.istore 5, 2) := by decide +kernel
theorem dX12_holds_43 : decode cX12_holds 43 = .ok (.iload 5, 2) := by decide +kernel
theorem dX12_holds_45 : decode cX12_holds 45 = .ok (.bipush 14, 2) := by decide +kernel
theorem dX12_holds_47 : decode cX12_holds 47 = .ok (.if_icmp .ge 17, 3) := by decide +kernel
theorem dX12_holds_50 : decode cX12_holds 50 = .ok (.aload_n 0, 1) := by decide +kernel
theorem dX12_holds_51 : decode cX12_holds 51 = .ok (.getfield 69, 3) := by decide +kernel
theorem dX12_holds_54 : decode cX12_holds 54 = .ok (.iload 5, 2) := by decide +kernel
theorem dX12_holds_56 : decode cX12_holds 56 = .ok (.iconst (-1), 1) := by decide +kernel
theorem dX12_holds_57 : decode cX12_holds 57 = .ok (.iastore, 1) := by decide +kernel
theorem dX12_holds_58 : decode cX12_holds 58 = .ok (.iinc 5 1, 3) := by decide +kernel
theorem dX12_holds_61 : decode cX12_holds 61 = .ok (.goto (-18), 3) := by decide +kernel
theorem dX12_holds_64 : decode cX12_holds 64 = .ok (.aload_n 0, 1) := by decide +kernel
theorem dX12_holds_65 : decode cX12_holds 65 = .ok (.invokevirtual 226, 3) := by decide +kernel
theorem dX12_holds_68 : decode cX12_holds 68 = .ok (.istore 5, 2) := by decide +kernel
theorem dX12_holds_70 : decode cX12_holds 70 = .ok (.iconst 0, 1) := by decide +kernel
theorem dX12_holds_71 : decode cX12_holds 71 = .ok (.istore 6, 2) := by decide +kernel
theorem dX12_holds_73 : decode cX12_holds 73 = .ok (.iload 6, 2) := by decide +kernel
theorem dX12_holds_75 : decode cX12_holds 75 = .ok (.aload_n 0, 1) := by decide +kernel
theorem dX12_holds_76 : decode cX12_holds 76 = .ok (.getfield 223, 3) := by decide +kernel
theorem dX12_holds_79 : decode cX12_holds 79 = .ok (.if_icmp .ge 205, 3) := by decide +kernel
theorem dX12_holds_82 : decode cX12_holds 82 = .ok (.iconst 1, 1) := by decide +kernel
theorem dX12_holds_83 : decode cX12_holds 83 = .ok (.istore 7, 2) := by decide +kernel
theorem dX12_holds_85 : decode cX12_holds 85 = .ok (.iload 7, 2) := by decide +kernel
theorem dX12_holds_87 : decode cX12_holds 87 = .ok (.iload_n 2, 1) := by decide +kernel
theorem dX12_holds_88 : decode cX12_holds 88 = .ok (.if_icmp .gt 102, 3) := by decide +kernel
theorem dX12_holds_91 : decode cX12_holds 91 = .ok (.aload_n 0, 1) := by decide +kernel
theorem dX12_holds_92 : decode cX12_holds 92 = .ok (.aload_n 0, 1) := by decide +kernel
theorem dX12_holds_93 : decode cX12_holds 93 = .ok (.getfield 61, 3) := by decide +kernel
theorem dX12_holds_96 : decode cX12_holds 96 = .ok (.iload 6, 2) := by decide +kernel
theorem dX12_holds_98 : decode cX12_holds 98 = .ok (.laload, 1) := by decide +kernel
theorem dX12_holds_99 : decode cX12_holds 99 = .ok (.invokevirtual 230, 3) := by decide +kernel
theorem dX12_holds_102 : decode cX12_holds 102 = .ok (.aload_n 0, 1) := by decide +kernel
theorem dX12_holds_103 : decode cX12_holds 103 = .ok (.getfield 202, 3) := by decide +kernel
theorem dX12_holds_106 : decode cX12_holds 106 = .ok (.iload 7, 2) := by decide +kernel
theorem dX12_holds_108 : decode cX12_holds 108 = .ok (.iadd, 1) := by decide +kernel
theorem dX12_holds_109 : decode cX12_holds 109 = .ok (.iload_n 3, 1) := by decide +kernel
theorem dX12_holds_110 : decode cX12_holds 110 = .ok (.if_icmp .le 6, 3) := by decide +kernel
theorem dX12_holds_113 : decode cX12_holds 113 = .ok (.goto 71, 3) := by decide +kernel
theorem dX12_holds_116 : decode cX12_holds 116 = .ok (.aload_n 0, 1) := by decide +kernel
theorem dX12_holds_117 : decode cX12_holds 117 = .ok (.iload_n 1, 1) := by decide +kernel
theorem dX12_holds_118 : decode cX12_holds 118 = .ok (.iload 7, 2) := by decide +kernel
theorem dX12_holds_120 : decode cX12_holds 120 = .ok (.invokevirtual 234, 3) := by decide +kernel
theorem dX12_holds_123 : decode cX12_holds 123 = .ok (.istore 8, 2) := by decide +kernel
theorem dX12_holds_125 : decode cX12_holds 125 = .ok (.iload 8, 2) := by decide +kernel
theorem dX12_holds_127 : decode cX12_holds 127 = .ok (.ifCond .ge 5, 3) := by decide +kernel
theorem dX12_holds_130 : decode cX12_holds 130 = .ok (.iconst 0, 1) := by decide +kernel
theorem dX12_holds_131 : decode cX12_holds 131 = .ok (.ireturn, 1) := by decide +kernel
theorem dX12_holds_132 : decode cX12_holds 132 = .ok (.iload 8, 2) := by decide +kernel
theorem dX12_holds_134 : decode cX12_holds 134 = .ok (.istore 9, 2) := by decide +kernel
theorem dX12_holds_136 : decode cX12_holds 136 = .ok (.iload 9, 2) := by decide +kernel
theorem dX12_holds_138 : decode cX12_holds 138 = .ok (.iload 8, 2) := by decide +kernel
theorem dX12_holds_140 : decode cX12_holds 140 = .ok (.iload 7, 2) := by decide +kernel
theorem dX12_holds_142 : decode cX12_holds 142 = .ok (.iadd, 1) := by decide +kernel
theorem dX12_holds_143 : decode cX12_holds 143 = .ok (.if_icmp .ge 18, 3) := by decide +kernel
theorem dX12_holds_146 : decode cX12_holds 146 = .ok (.aload_n 0, 1) := by decide +kernel
theorem dX12_holds_147 : decode cX12_holds 147 = .ok (.getfield 69, 3) := by decide +kernel
theorem dX12_holds_150 : decode cX12_holds 150 = .ok (.iload 9, 2) := by decide +kernel
theorem dX12_holds_152 : decode cX12_holds 152 = .ok (.iload 8, 2) := by decide +kernel
theorem dX12_holds_154 : decode cX12_holds 154 = .ok (.iastore, 1) := by decide +kernel
theorem dX12_holds_155 : decode cX12_holds 155 = .ok (.iinc 9 1, 3) := by decide +kernel
theorem dX12_holds_158 : decode cX12_holds 158 = .ok (.goto (-22), 3) := by decide +kernel
theorem dX12_holds_161 : decode cX12_holds 161 = .ok (.iload_n 1, 1) := by decide +kernel
theorem dX12_holds_162 : decode cX12_holds 162 = .ok (.iconst 1, 1) := by decide +kernel
theorem dX12_holds_163 : decode cX12_holds 163 = .ok (.if_icmp .ne 12, 3) := by decide +kernel
theorem dX12_holds_166 : decode cX12_holds 166 = .ok (.aload_n 0, 1) := by decide +kernel
theorem dX12_holds_167 : decode cX12_holds 167 = .ok (.iload 8, 2) := by decide +kernel
theorem dX12_holds_169 : decode cX12_holds 169 = .ok (.iload 7, 2) := by decide +kernel
theorem dX12_holds_171 : decode cX12_holds 171 = .ok (.iadd, 1) := by decide +kernel
theorem dX12_holds_172 : decode cX12_holds 172 = .ok (.putfield 199, 3) := by decide +kernel
theorem dX12_holds_175 : decode cX12_holds 175 = .ok (.aload_n 0, 1) := by decide +kernel
theorem dX12_holds_176 : decode cX12_holds 176 = .ok (.invokevirtual 226, 3) := by decide +kernel
theorem dX12_holds_179 : decode cX12_holds 179 = .ok (.ifCond .ne 5, 3) := by decide +kernel
theorem dX12_holds_182 : decode cX12_holds 182 = .ok (.iconst (-1), 1) := by decide +kernel
theorem dX12_holds_183 : decode cX12_holds 183 = .ok (.ireturn, 1) := by decide +kernel
theorem dX12_holds_184 : decode cX12_holds 184 = .ok (.iinc 7 1, 3) := by decide +kernel
theorem dX12_holds_187 : decode cX12_holds 187 = .ok (.goto (-102), 3) := by decide +kernel
theorem dX12_holds_190 : decode cX12_holds 190 = .ok (.iconst 0, 1) := by decide +kernel
theorem dX12_holds_191 : decode cX12_holds 191 = .ok (.istore 7, 2) := by decide +kernel
theorem dX12_holds_193 : decode cX12_holds 193 = .ok (.iload 7, 2) := by decide +kernel
theorem dX12_holds_195 : decode cX12_holds 195 = .ok (.iload 4, 2) := by decide +kernel
theorem dX12_holds_197 : decode cX12_holds 197 = .ok (.if_icmp .ge 81, 3) := by decide +kernel
theorem dX12_holds_200 : decode cX12_holds 200 = .ok (.aload_n 0, 1) := by decide +kernel
theorem dX12_holds_201 : decode cX12_holds 201 = .ok (.aload_n 0, 1) := by decide +kernel
theorem dX12_holds_202 : decode cX12_holds 202 = .ok (.getfield 61, 3) := by decide +kernel
theorem dX12_holds_205 : decode cX12_holds 205 = .ok (.iload 6, 2) := by decide +kernel
theorem dX12_holds_207 : decode cX12_holds 207 = .ok (.laload, 1) := by decide +kernel
theorem dX12_holds_208 : decode cX12_holds 208 = .ok (.invokevirtual 230, 3) := by decide +kernel
theorem dX12_holds_211 : decode cX12_holds 211 = .ok (.aload_n 0, 1) := by decide +kernel
theorem dX12_holds_212 : decode cX12_holds 212 = .ok (.getfield 69, 3) := by decide +kernel
theorem dX12_holds_215 : decode cX12_holds 215 = .ok (.iload 7, 2) := by decide +kernel
theorem dX12_holds_217 : decode cX12_holds 217 = .ok (.iaload, 1) := by decide +kernel
theorem dX12_holds_218 : decode cX12_holds 218 = .ok (.iload 7, 2) := by decide +kernel
theorem dX12_holds_220 : decode cX12_holds 220 = .ok (.if_icmp .eq 6, 3) := by decide +kernel
theorem dX12_holds_223 : decode cX12_holds 223 = .ok (.goto 49, 3) := by decide +kernel
theorem dX12_holds_226 : decode cX12_holds 226 = .ok (.iload 7, 2) := by decide +kernel
theorem dX12_holds_228 : decode cX12_holds 228 = .ok (.istore 8, 2) := by decide +kernel
theorem dX12_holds_230 : decode cX12_holds 230 = .ok (.iload 8, 2) := by decide +kernel
theorem dX12_holds_232 : decode cX12_holds 232 = .ok (.iload 4, 2) := by decide +kernel
theorem dX12_holds_234 : decode cX12_holds 234 = .ok (.if_icmp .ge 29, 3) := by decide +kernel
theorem dX12_holds_237 : decode cX12_holds 237 = .ok (.aload_n 0, 1) := by decide +kernel
theorem dX12_holds_238 : decode cX12_holds 238 = .ok (.getfield 69, 3) := by decide +kernel
theorem dX12_holds_241 : decode cX12_holds 241 = .ok (.iload 8, 2) := by decide +kernel
theorem dX12_holds_243 : decode cX12_holds 243 = .ok (.iaload, 1) := by decide +kernel
theorem dX12_holds_244 : decode cX12_holds 244 = .ok (.iload 7, 2) := by decide +kernel
theorem dX12_holds_246 : decode cX12_holds 246 = .ok (.if_icmp .ne 11, 3) := by decide +kernel
theorem dX12_holds_249 : decode cX12_holds 249 = .ok (.aload_n 0, 1) := by decide +kernel
theorem dX12_holds_250 : decode cX12_holds 250 = .ok (.getfield 69, 3) := by decide +kernel
theorem dX12_holds_253 : decode cX12_holds 253 = .ok (.iload 8, 2) := by decide +kernel
theorem dX12_holds_255 : decode cX12_holds 255 = .ok (.iconst (-1), 1) := by decide +kernel
theorem dX12_holds_256 : decode cX12_holds 256 = .ok (.iastore, 1) := by decide +kernel
theorem dX12_holds_257 : decode cX12_holds 257 = .ok (.iinc 8 1, 3) := by decide +kernel
theorem dX12_holds_260 : decode cX12_holds 260 = .ok (.goto (-30), 3) := by decide +kernel
theorem dX12_holds_263 : decode cX12_holds 263 = .ok (.aload_n 0, 1) := by decide +kernel
theorem dX12_holds_264 : decode cX12_holds 264 = .ok (.invokevirtual 226, 3) := by decide +kernel
theorem dX12_holds_267 : decode cX12_holds 267 = .ok (.ifCond .ne 5, 3) := by decide +kernel
theorem dX12_holds_270 : decode cX12_holds 270 = .ok (.iconst (-1), 1) := by decide +kernel
theorem dX12_holds_271 : decode cX12_holds 271 = .ok (.ireturn, 1) := by decide +kernel
theorem dX12_holds_272 : decode cX12_holds 272 = .ok (.iinc 7 1, 3) := by decide +kernel
theorem dX12_holds_275 : decode cX12_holds 275 = .ok (.goto (-82), 3) := by decide +kernel
theorem dX12_holds_278 : decode cX12_holds 278 = .ok (.iinc 6 1, 3) := by decide +kernel
theorem dX12_holds_281 : decode cX12_holds 281 = .ok (.goto (-208), 3) := by decide +kernel
theorem dX12_holds_284 : decode cX12_holds 284 = .ok (.iconst 1, 1) := by decide +kernel
theorem dX12_holds_285 : decode cX12_holds 285 = .ok (.ireturn, 1) := by decide +kernel
set_option maxRecDepth 20000 in
theorem ggX12_worst_X12_fails : GoodIn wsX12_worst wsX12_fails := by first | exact goodIn_sub (show zy_S _ wsX12_worst from (zy_c (zy_t (zy_l (zy_l (zy_t (zy_t (zy_t (zy_t zy_h))))))) (zy_a (zy_c (zy_t (zy_l (zy_l (zy_t (zy_t (zy_t (zy_t (zy_t zy_h)))))))) zy_n) (zy_p (fun _ h => (zy_t (zy_r h))))))) (by decide +kernel) | exact goodIn_r _ [5, 6, 47, 48, 49, 50, 51, 52, 53, 54, 55, 56, 57, 58, 59, 60, 61, 62, 63, 64, 65, 66, 67, 68, 69, 70, 71, 72, 73, 74, 75, 76, 77, 78, 79, 80, 81, 82] (by decide +kernel) (by decide +kernel)
set_option maxRecDepth 20000 in
theorem gX12_worst_X12_fails : GoodIn wsX12_worst (wsV RX12 72 RX12 yX12_fails wsX12_fails) := by first | exact goodIn_app (goodIn_sub (show zy_S _ wsX12_worst from (zy_c (zy_t (zy_l (zy_l zy_h))) (zy_c (zy_t (zy_l (zy_l (zy_t zy_h)))) (zy_c (zy_t (zy_l (zy_l (zy_t (zy_t zy_h))))) (zy_c (zy_t (zy_l (zy_l (zy_t (zy_t (zy_t zy_h)))))) zy_n))))) (by decide +kernel)) ggX12_worst_X12_fails | exact goodIn_app (goodIn_of _ (by decide +kernel)) ggX12_worst_X12_fails
set_option maxRecDepth 20000 in
theorem ggX12_worst_X12_holds : GoodIn wsX12_worst wsX12_holds := by first | exact goodIn_sub (show zy_S _ wsX12_worst from (zy_c (zy_t (zy_l (zy_l (zy_t (zy_t (zy_t (zy_t (zy_t (zy_t (zy_t (zy_t (zy_t zy_h)))))))))))) (zy_a (zy_a (zy_c (zy_t (zy_l (zy_l (zy_t (zy_t (zy_t (zy_t (zy_t (zy_t (zy_t (zy_t (zy_t (zy_t zy_h))))))))))))) (zy_c (zy_t (zy_l (zy_l (zy_t (zy_t (zy_t (zy_t (zy_t (zy_t (zy_t (zy_t (zy_t (zy_t (zy_t zy_h)))))))))))))) (zy_c (zy_t (zy_l (zy_l (zy_t (zy_t (zy_t (zy_t (zy_t (zy_t (zy_t (zy_t (zy_t (zy_t (zy_t (zy_t zy_h))))))))))))))) (zy_c (zy_t (zy_l (zy_l (zy_t (zy_t (zy_t (zy_t (zy_t (zy_t (zy_t (zy_t (zy_t (zy_t (zy_t (zy_t (zy_t zy_h)))))))))))))))) (zy_c (zy_t (zy_l (zy_l (zy_t (zy_t (zy_t (zy_t (zy_t (zy_t (zy_t (zy_t (zy_t (zy_t (zy_t (zy_t (zy_t (zy_t zy_h))))))))))))))))) (zy_c (zy_t (zy_l (zy_l (zy_t (zy_t (zy_t (zy_t (zy_t (zy_t (zy_t (zy_t (zy_t (zy_t (zy_t (zy_t (zy_t (zy_t (zy_t zy_h)))))))))))))))))) (zy_c (zy_t (zy_l (zy_l (zy_t (zy_t (zy_t (zy_t (zy_t (zy_t (zy_t (zy_t (zy_t (zy_t (zy_t (zy_t (zy_t (zy_t (zy_t (zy_t zy_h))))))))))))))))))) (zy_c (zy_t (zy_l (zy_l (zy_t (zy_t (zy_t (zy_t (zy_t (zy_t (zy_t (zy_t (zy_t (zy_t (zy_t (zy_t (zy_t (zy_t (zy_t (zy_t (zy_t zy_h)))))))))))))))))))) (zy_c (zy_t (zy_l (zy_l (zy_t (zy_t (zy_t (zy_t (zy_t (zy_t (zy_t (zy_t (zy_t (zy_t (zy_t (zy_t (zy_t (zy_t (zy_t (zy_t (zy_t (zy_t zy_h))))))))))))))))))))) (zy_c (zy_t (zy_l (zy_l (zy_t (zy_t (zy_t (zy_t (zy_t (zy_t (zy_t (zy_t (zy_t (zy_t (zy_t (zy_t (zy_t (zy_t (zy_t (zy_t (zy_t (zy_t (zy_t zy_h)))))))))))))))))))))) (zy_c (zy_t (zy_l (zy_l (zy_t (zy_t (zy_t (zy_t (zy_t (zy_t (zy_t (zy_t (zy_t (zy_t (zy_t (zy_t (zy_t (zy_t (zy_t (zy_t (zy_t (zy_t (zy_t (zy_t zy_h))))))))))))))))))))))) (zy_c (zy_t (zy_l (zy_l (zy_t (zy_t (zy_t zy_h)))))) (zy_c (zy_t (zy_l (zy_l (zy_t (zy_t (zy_t (zy_t (zy_t (zy_t (zy_t (zy_t (zy_t (zy_t (zy_t (zy_t (zy_t (zy_t (zy_t (zy_t (zy_t (zy_t (zy_t (zy_t (zy_t zy_h)))))))))))))))))))))))) (zy_c (zy_t (zy_l (zy_l (zy_t (zy_t (zy_t (zy_t (zy_t (zy_t (zy_t (zy_t (zy_t (zy_t (zy_t (zy_t (zy_t (zy_t (zy_t (zy_t (zy_t (zy_t (zy_t (zy_t (zy_t (zy_t zy_h))))))))))))))))))))))))) (zy_c (zy_t (zy_l (zy_l (zy_t (zy_t (zy_t (zy_t (zy_t (zy_t (zy_t (zy_t (zy_t (zy_t (zy_t (zy_t (zy_t (zy_t (zy_t (zy_t (zy_t (zy_t (zy_t (zy_t (zy_t (zy_t (zy_t zy_h)))))))))))))))))))))))))) (zy_c (zy_t (zy_l (zy_r zy_h))) (zy_c (zy_t (zy_l (zy_r (zy_t zy_h)))) (zy_c (zy_t (zy_l (zy_r (zy_t (zy_t zy_h))))) (zy_c (zy_t (zy_l (zy_r (zy_t (zy_t (zy_t zy_h)))))) (zy_c (zy_t (zy_l (zy_r (zy_t (zy_t (zy_t (zy_t zy_h))))))) (zy_c (zy_t (zy_l (zy_r (zy_t (zy_t (zy_t (zy_t (zy_t zy_h)))))))) (zy_c (zy_t (zy_l (zy_r (zy_t (zy_t (zy_t (zy_t (zy_t (zy_t zy_h))))))))) (zy_c (zy_t (zy_l (zy_r (zy_t (zy_t (zy_t (zy_t (zy_t (zy_t (zy_t zy_h)))))))))) (zy_c (zy_t (zy_l (zy_r (zy_t (zy_t (zy_t (zy_t (zy_t (zy_t (zy_t (zy_t zy_h))))))))))) zy_n)))))))))))))))))))))))) (zy_c (zy_t (zy_l (zy_r (zy_t (zy_t (zy_t (zy_t (zy_t (zy_t (zy_t (zy_t (zy_t zy_h)))))))))))) (zy_c (zy_t (zy_l (zy_r (zy_t (zy_t (zy_t (zy_t (zy_t (zy_t (zy_t (zy_t (zy_t (zy_t zy_h))))))))))))) (zy_c (zy_t (zy_l (zy_r (zy_t (zy_t (zy_t (zy_t (zy_t (zy_t (zy_t (zy_t (zy_t (zy_t (zy_t zy_h)))))))))))))) (zy_c (zy_t (zy_l (zy_r (zy_t (zy_t (zy_t (zy_t (zy_t (zy_t (zy_t (zy_t (zy_t (zy_t (zy_t (zy_t zy_h))))))))))))))) (zy_c (zy_t (zy_l (zy_r (zy_t (zy_t (zy_t (zy_t (zy_t (zy_t (zy_t (zy_t (zy_t (zy_t (zy_t (zy_t (zy_t zy_h)))))))))))))))) (zy_c (zy_t (zy_l (zy_r (zy_t (zy_t (zy_t (zy_t (zy_t (zy_t (zy_t (zy_t (zy_t (zy_t (zy_t (zy_t (zy_t (zy_t zy_h))))))))))))))))) (zy_c (zy_t (zy_l (zy_r (zy_t (zy_t (zy_t (zy_t (zy_t (zy_t (zy_t (zy_t (zy_t (zy_t (zy_t (zy_t (zy_t (zy_t (zy_t zy_h)))))))))))))))))) (zy_c (zy_t (zy_l (zy_r (zy_t (zy_t (zy_t (zy_t (zy_t (zy_t (zy_t (zy_t (zy_t (zy_t (zy_t (zy_t (zy_t (zy_t (zy_t (zy_t zy_h))))))))))))))))))) (zy_c (zy_t (zy_l (zy_r (zy_t (zy_t (zy_t (zy_t (zy_t (zy_t (zy_t (zy_t (zy_t (zy_t (zy_t (zy_t (zy_t (zy_t (zy_t (zy_t (zy_t zy_h)))))))))))))))))))) (zy_c (zy_t (zy_l (zy_r (zy_t (zy_t (zy_t (zy_t (zy_t (zy_t (zy_t (zy_t (zy_t (zy_t (zy_t (zy_t (zy_t (zy_t (zy_t (zy_t (zy_t (zy_t zy_h))))))))))))))))))))) (zy_c (zy_t (zy_l (zy_r (zy_t (zy_t (zy_t (zy_t (zy_t (zy_t (zy_t (zy_t (zy_t (zy_t (zy_t (zy_t (zy_t (zy_t (zy_t (zy_t (zy_t (zy_t (zy_t zy_h)))))))))))))))))))))) (zy_c (zy_t (zy_l (zy_r (zy_t (zy_t (zy_t (zy_t (zy_t (zy_t (zy_t (zy_t (zy_t (zy_t (zy_t (zy_t (zy_t (zy_t (zy_t (zy_t (zy_t (zy_t (zy_t (zy_t zy_h))))))))))))))))))))))) (zy_c (zy_t (zy_l (zy_r (zy_t (zy_t (zy_t (zy_t (zy_t (zy_t (zy_t (zy_t (zy_t (zy_t (zy_t (zy_t (zy_t (zy_t (zy_t (zy_t (zy_t (zy_t (zy_t (zy_t (zy_t zy_h)))))))))))))))))))))))) zy_n)))))))))))))) (zy_p (fun _ h => (zy_t (zy_r h))))))) (by decide +kernel) | exact goodIn_r _ [10, 11, 12, 13, 14, 15, 16, 17, 18, 19, 20, 21, 4, 22, 23, 24, 25, 26, 27, 28, 29, 30, 31, 32, 33, 34, 35, 36, 37, 38, 39, 40, 41, 42, 43, 44, 45, 46, 47, 48, 49, 50, 51, 52, 53, 54, 55, 56, 57, 58, 59, 60, 61, 62, 63, 64, 65, 66, 67, 68, 69, 70, 71, 72, 73, 74, 75, 76, 77, 78, 79, 80, 81, 82] (by decide +kernel) (by decide +kernel)
set_option maxRecDepth 20000 in
theorem gX12_worst_X12_holds : GoodIn wsX12_worst (wsV RX12 237 RX12 yX12_holds wsX12_holds) := by first | exact goodIn_app (goodIn_sub (show zy_S _ wsX12_worst from (zy_c (zy_t (zy_l (zy_l (zy_t (zy_t (zy_t (zy_t (zy_t (zy_t zy_h))))))))) (zy_c (zy_t (zy_l (zy_l (zy_t (zy_t (zy_t (zy_t (zy_t (zy_t (zy_t zy_h)))))))))) (zy_c (zy_t (zy_l (zy_l (zy_t (zy_t (zy_t (zy_t (zy_t (zy_t (zy_t (zy_t zy_h))))))))))) (zy_c (zy_t (zy_l (zy_l (zy_t (zy_t (zy_t zy_h)))))) zy_n))))) (by decide +kernel)) ggX12_worst_X12_holds | exact goodIn_app (goodIn_of _ (by decide +kernel)) ggX12_worst_X12_holds
theorem dX12_worst_0 : decode cX12_worst 0 = .ok (.aload_n 0, 1) := by decide +kernel
theorem dX12_worst_1 : decode cX12_worst 1 = .ok (.iload_n 1, 1) := by decide +kernel
theorem dX12_worst_2 : decode cX12_worst 2 = .ok (.ifCond .lt 34, 3) := by decide +kernel
theorem dX12_worst_5 : decode cX12_worst 5 = .ok (.iload_n 1, 1) := by decide +kernel
theorem dX12_worst_6 : decode cX12_worst 6 = .ok (.iconst 3, 1) := by decide +kernel
theorem dX12_worst_7 : decode cX12_worst 7 = .ok (.if_icmp .gt 29, 3) := by decide +kernel
theorem dX12_worst_10 : decode cX12_worst 10 = .ok (.iload_n 2, 1) := by decide +kernel
theorem dX12_worst_11 : decode cX12_worst 11 = .ok (.iconst 1, 1) := by decide +kernel
theorem dX12_worst_12 : decode cX12_worst 12 = .ok (.if_icmp .lt 24, 3) := by decide +kernel
theorem dX12_worst_15 : decode cX12_worst 15 = .ok (.iload_n 2, 1) := by decide +kernel
theorem dX12_worst_16 : decode cX12_worst 16 = .ok (.iconst 4, 1) := by decide +kernel
theorem dX12_worst_17 : decode cX12_worst 17 = .ok (.if_icmp .gt 19, 3) := by decide +kernel
theorem dX12_worst_20 : decode cX12_worst 20 = .ok (.iload_n 3, 1) := by decide +kernel
theorem dX12_worst_21 : decode cX12_worst 21 = .ok (.iconst 1, 1) := by decide +kernel
theorem dX12_worst_22 : decode cX12_worst 22 = .ok (.if_icmp .lt 14, 3) := by decide +kernel
theorem dX12_worst_25 : decode cX12_worst 25 = .ok (.iload_n 3, 1) := by decide +kernel
theorem dX12_worst_26 : decode cX12_worst 26 = .ok (.bipush 8, 2) := by decide +kernel
theorem dX12_worst_28 : decode cX12_worst 28 = .ok (.if_icmp .gt 8, 3) := by decide +kernel
theorem dX12_worst_31 : decode cX12_worst 31 = .ok (.iload_n 2, 1) := by decide +kernel
theorem dX12_worst_32 : decode cX12_worst 32 = .ok (.iload_n 3, 1) := by decide +kernel
theorem dX12_worst_33 : decode cX12_worst 33 = .ok (.if_icmp .le 7, 3) := by decide +kernel
theorem dX12_worst_36 : decode cX12_worst 36 = .ok (.iconst 1, 1) := by decide +kernel
theorem dX12_worst_37 : decode cX12_worst 37 = .ok (.goto 4, 3) := by decide +kernel
theorem dX12_worst_40 : decode cX12_worst 40 = .ok (.iconst 0, 1) := by decide +kernel
theorem dX12_worst_41 : decode cX12_worst 41 = .ok (.invokevirtual 72, 3) := by decide +kernel
theorem dX12_worst_44 : decode cX12_worst 44 = .ok (.ifCond .eq 5, 3) := by decide +kernel
theorem dX12_worst_47 : decode cX12_worst 47 = .ok (.iconst 0, 1) := by decide +kernel
theorem dX12_worst_48 : decode cX12_worst 48 = .ok (.ireturn, 1) := by decide +kernel
theorem dX12_worst_49 : decode cX12_worst 49 = .ok (.iload_n 3, 1) := by decide +kernel
theorem dX12_worst_50 : decode cX12_worst 50 = .ok (.istore 4, 2) := by decide +kernel
theorem dX12_worst_52 : decode cX12_worst 52 = .ok (.iload 4, 2) := by decide +kernel
theorem dX12_worst_54 : decode cX12_worst 54 = .ok (.bipush 14, 2) := by decide +kernel
theorem dX12_worst_56 : decode cX12_worst 56 = .ok (.if_icmp .gt 37, 3) := by decide +kernel
theorem dX12_worst_59 : decode cX12_worst 59 = .ok (.aload_n 0, 1) := by decide +kernel
theorem dX12_worst_60 : decode cX12_worst 60 = .ok (.iload_n 1, 1) := by decide +kernel
theorem dX12_worst_61 : decode cX12_worst 61 = .ok (.iload_n 2, 1) := by decide +kernel
theorem dX12_worst_62 : decode cX12_worst 62 = .ok (.iload_n 3, 1) := by decide +kernel
theorem dX12_worst_63 : decode cX12_worst 63 = .ok (.iload 4, 2) := by decide +kernel
theorem dX12_worst_65 : decode cX12_worst 65 = .ok (.invokevirtual 237, 3) := by decide +kernel
theorem dX12_worst_68 : decode cX12_worst 68 = .ok (.istore 5, 2) := by decide +kernel
theorem dX12_worst_70 : decode cX12_worst 70 = .ok (.iload 5, 2) := by decide +kernel
theorem dX12_worst_72 : decode cX12_worst 72 = .ok (.ifCond .ge 6, 3) := by decide +kernel
theorem dX12_worst_75 : decode cX12_worst 75 = .ok (.bipush (-2), 2) := by decide +kernel
theorem dX12_worst_77 : decode cX12_worst 77 = .ok (.ireturn, 1) := by decide +kernel
theorem dX12_worst_78 : decode cX12_worst 78 = .ok (.iload 5, 2) := by decide +kernel
theorem dX12_worst_80 : decode cX12_worst 80 = .ok (.iconst 1, 1) := by decide +kernel
theorem dX12_worst_81 : decode cX12_worst 81 = .ok (.if_icmp .ne 6, 3) := by decide +kernel
theorem dX12_worst_84 : decode cX12_worst 84 = .ok (.iload 4, 2) := by decide +kernel
theorem dX12_worst_86 : decode cX12_worst 86 = .ok (.ireturn, 1) := by decide +kernel
theorem dX12_worst_87 : decode cX12_worst 87 = .ok (.iinc 4 1, 3) := by decide +kernel
theorem dX12_worst_90 : decode cX12_worst 90 = .ok (.goto (-38), 3) := by decide +kernel
theorem dX12_worst_93 : decode cX12_worst 93 = .ok (.iconst (-1), 1) := by decide +kernel
theorem dX12_worst_94 : decode cX12_worst 94 = .ok (.ireturn, 1) := by decide +kernel
set_option maxRecDepth 20000 in
theorem ggX12_count_X12_fails : GoodIn wsX12_count wsX12_fails := by first | exact goodIn_sub (show zy_S _ wsX12_count from (zy_c (zy_t (zy_l (zy_l (zy_t (zy_t (zy_t (zy_t (zy_t (zy_t (zy_t (zy_t (zy_t (zy_t (zy_t (zy_t (zy_t (zy_t (zy_t (zy_t (zy_t (zy_t zy_h))))))))))))))))))))) (zy_a (zy_c (zy_t (zy_l (zy_l (zy_t (zy_t (zy_t (zy_t (zy_t (zy_t (zy_t (zy_t (zy_t (zy_t (zy_t (zy_t (zy_t (zy_t (zy_t (zy_t (zy_t (zy_t (zy_t zy_h)))))))))))))))))))))) zy_n) (zy_p (fun _ h => (zy_t (zy_r h))))))) (by decide +kernel) | exact goodIn_r _ [19, 20, 26, 27, 28, 29, 30, 31, 32, 33, 34, 35, 36, 37, 38, 39, 40, 41, 42, 43, 44, 45, 46, 47, 48, 49, 50, 51, 52, 53, 54, 55, 56, 57, 58, 59, 60, 61] (by decide +kernel) (by decide +kernel)
set_option maxRecDepth 20000 in
theorem gX12_count_X12_fails : GoodIn wsX12_count (wsV RX12 72 RX12 yX12_fails wsX12_fails) := by first | exact goodIn_app (goodIn_sub (show zy_S _ wsX12_count from (zy_c (zy_t (zy_l (zy_l (zy_t (zy_t (zy_t (zy_t (zy_t (zy_t (zy_t (zy_t (zy_t (zy_t (zy_t (zy_t (zy_t (zy_t zy_h))))))))))))))))) (zy_c (zy_t (zy_l (zy_l (zy_t (zy_t (zy_t (zy_t (zy_t (zy_t (zy_t (zy_t (zy_t (zy_t (zy_t (zy_t (zy_t (zy_t (zy_t zy_h)))))))))))))))))) (zy_c (zy_t (zy_l (zy_l (zy_t (zy_t (zy_t (zy_t (zy_t (zy_t (zy_t (zy_t (zy_t (zy_t (zy_t (zy_t (zy_t (zy_t (zy_t (zy_t zy_h))))))))))))))))))) (zy_c (zy_t (zy_l (zy_l (zy_t (zy_t (zy_t (zy_t (zy_t (zy_t (zy_t (zy_t (zy_t (zy_t (zy_t (zy_t (zy_t (zy_t (zy_t (zy_t (zy_t zy_h)))))))))))))))))))) zy_n))))) (by decide +kernel)) ggX12_count_X12_fails | exact goodIn_app (goodIn_of _ (by decide +kernel)) ggX12_count_X12_fails
set_option maxRecDepth 20000 in
theorem ggX12_count_X12_runFrom : GoodIn wsX12_count wsX12_runFrom := by first | exact goodIn_sub (show zy_S _ wsX12_count from (zy_c (zy_t (zy_l (zy_l (zy_t (zy_t (zy_t (zy_t (zy_t (zy_t (zy_t (zy_t (zy_t (zy_t (zy_t (zy_t (zy_t (zy_t (zy_t (zy_t (zy_t (zy_t (zy_t (zy_t (zy_t (zy_t (zy_t zy_h)))))))))))))))))))))))))) (zy_a (zy_c (zy_t (zy_l (zy_l (zy_t (zy_t zy_h))))) (zy_c (zy_t (zy_l (zy_r zy_h))) (zy_c (zy_t (zy_l (zy_l (zy_t (zy_t (zy_t (zy_t (zy_t (zy_t (zy_t zy_h)))))))))) zy_n))) (zy_p (fun _ h => (zy_t (zy_r h))))))) (by decide +kernel) | exact goodIn_r _ [24, 3, 25, 8, 26, 27, 28, 29, 30, 31, 32, 33, 34, 35, 36, 37, 38, 39, 40, 41, 42, 43, 44, 45, 46, 47, 48, 49, 50, 51, 52, 53, 54, 55, 56, 57, 58, 59, 60, 61] (by decide +kernel) (by decide +kernel)
set_option maxRecDepth 20000 in
theorem gX12_count_X12_runFrom : GoodIn wsX12_count (wsV RX12 116 RX12 yX12_runFrom wsX12_runFrom) := by first | exact goodIn_app (goodIn_sub (show zy_S _ wsX12_count from (zy_c (zy_t (zy_l (zy_l (zy_t (zy_t (zy_t (zy_t (zy_t (zy_t (zy_t (zy_t (zy_t (zy_t (zy_t (zy_t (zy_t (zy_t (zy_t (zy_t (zy_t (zy_t (zy_t (zy_t zy_h))))))))))))))))))))))) (zy_c (zy_t (zy_l (zy_l (zy_t (zy_t (zy_t (zy_t (zy_t (zy_t (zy_t (zy_t (zy_t (zy_t (zy_t (zy_t (zy_t (zy_t (zy_t (zy_t (zy_t (zy_t (zy_t (zy_t (zy_t zy_h)))))))))))))))))))))))) (zy_c (zy_t (zy_l (zy_l (zy_t (zy_t (zy_t (zy_t (zy_t (zy_t (zy_t (zy_t (zy_t (zy_t (zy_t (zy_t (zy_t (zy_t (zy_t (zy_t (zy_t (zy_t (zy_t (zy_t (zy_t (zy_t zy_h))))))))))))))))))))))))) (zy_c (zy_t (zy_l (zy_l (zy_t (zy_t (zy_t (zy_t (zy_t (zy_t (zy_t (zy_t (zy_t (zy_t (zy_t (zy_t (zy_t (zy_t (zy_t (zy_t (zy_t zy_h)))))))))))))))))))) zy_n))))) (by decide +kernel)) ggX12_count_X12_runFrom | exact goodIn_app (goodIn_of _ (by decide +kernel)) ggX12_count_X12_runFrom
theorem dX12_count_0 : decode cX12_count 0 = .ok (.aload_n 0, 1) := by decide +kernel
theorem dX12_count_1 : decode cX12_count 1 = .ok (.iload_n 1, 1) := by decide +kernel
theorem dX12_count_2 : decode cX12_count 2 = .ok (.ifCond .lt 9, 3) := by decide +kernel
theorem dX12_count_5 : decode cX12_count 5 = .ok (.iload_n 1, 1) := by decide +kernel
theorem dX12_count_6 : decode cX12_count 6 = .ok (.bipush 12, 2) := by decide +kernel
theorem dX12_count_8 : decode cX12_count 8 = .ok (.if_icmp .le 7, 3) := by decide +kernel
theorem dX12_count_11 : decode cX12_count 11 = .ok (.iconst 1, 1) := by decide +kernel
theorem dX12_count_12 : decode cX12_count 12 = .ok (.goto 4, 3) := by decide +kernel
theorem dX12_count_15 : decode cX12_count 15 = .ok (.iconst 0, 1) := by decide +kernel
theorem dX12_count_16 : decode cX12_count 16 = .ok (.invokevirtual 72, 3) := by decide +kernel
theorem dX12_count_19 : decode cX12_count 19 = .ok (.ifCond .eq 5, 3) := by decide +kernel
theorem dX12_count_22 : decode cX12_count 22 = .ok (.iconst 0, 1) := by decide +kernel
theorem dX12_count_23 : decode cX12_count 23 = .ok (.ireturn, 1) := by decide +kernel
theorem dX12_count_24 : decode cX12_count 24 = .ok (.iload_n 1, 1) := by decide +kernel
theorem dX12_count_25 : decode cX12_count 25 = .ok (.bipush 12, 2) := by decide +kernel
theorem dX12_count_27 : decode cX12_count 27 = .ok (.if_icmp .ne 8, 3) := by decide +kernel
theorem dX12_count_30 : decode cX12_count 30 = .ok (.aload_n 0, 1) := by decide +kernel
theorem dX12_count_31 : decode cX12_count 31 = .ok (.getfield 223, 3) := by decide +kernel
theorem dX12_count_34 : decode cX12_count 34 = .ok (.ireturn, 1) := by decide +kernel
theorem dX12_count_35 : decode cX12_count 35 = .ok (.aload_n 0, 1) := by decide +kernel
theorem dX12_count_36 : decode cX12_count 36 = .ok (.getfield 13, 3) := by decide +kernel
theorem dX12_count_39 : decode cX12_count 39 = .ok (.ifCond .ge 13, 3) := by decide +kernel
theorem dX12_count_42 : decode cX12_count 42 = .ok (.iload_n 1, 1) := by decide +kernel
theorem dX12_count_43 : decode cX12_count 43 = .ok (.ifCond .ne 7, 3) := by decide +kernel
theorem dX12_count_46 : decode cX12_count 46 = .ok (.iconst (-1), 1) := by decide +kernel
theorem dX12_count_47 : decode cX12_count 47 = .ok (.goto 4, 3) := by decide +kernel
theorem dX12_count_50 : decode cX12_count 50 = .ok (.iconst 0, 1) := by decide +kernel
theorem dX12_count_51 : decode cX12_count 51 = .ok (.ireturn, 1) := by decide +kernel
theorem dX12_count_52 : decode cX12_count 52 = .ok (.iconst 0, 1) := by decide +kernel
theorem dX12_count_53 : decode cX12_count 53 = .ok (.istore_n 2, 1) := by decide +kernel
theorem dX12_count_54 : decode cX12_count 54 = .ok (.iload_n 1, 1) := by decide +kernel
theorem dX12_count_55 : decode cX12_count 55 = .ok (.tableswitch 262 0 10 #[57, 62, 67, 72, 77, 82, 87, 116, 155, 160, 188], 57) := by decide +kernel
theorem dX12_count_112 : decode cX12_count 112 = .ok (.aload_n 0, 1) := by decide +kernel
theorem dX12_count_113 : decode cX12_count 113 = .ok (.getfield 13, 3) := by decide +kernel
theorem dX12_count_116 : decode cX12_count 116 = .ok (.ireturn, 1) := by decide +kernel
theorem dX12_count_117 : decode cX12_count 117 = .ok (.aload_n 0, 1) := by decide +kernel
theorem dX12_count_118 : decode cX12_count 118 = .ok (.getfield 76, 3) := by decide +kernel
theorem dX12_count_121 : decode cX12_count 121 = .ok (.ireturn, 1) := by decide +kernel
theorem dX12_count_122 : decode cX12_count 122 = .ok (.aload_n 0, 1) := by decide +kernel
theorem dX12_count_123 : decode cX12_count 123 = .ok (.getfield 79, 3) := by decide +kernel
theorem dX12_count_126 : decode cX12_count 126 = .ok (.ireturn, 1) := by decide +kernel
theorem dX12_count_127 : decode cX12_count 127 = .ok (.aload_n 0, 1) := by decide +kernel
theorem dX12_count_128 : decode cX12_count 128 = .ok (.getfield 82, 3) := by decide +kernel
theorem dX12_count_131 : decode cX12_count 131 = .ok (.ireturn, 1) := by decide +kernel
theorem dX12_count_132 : decode cX12_count 132 = .ok (.aload_n 0, 1) := by decide +kernel
theorem dX12_count_133 : decode cX12_count 133 = .ok (.getfield 85, 3) := by decide +kernel
theorem dX12_count_136 : decode cX12_count 136 = .ok (.ireturn, 1) := by decide +kernel
theorem dX12_count_137 : decode cX12_count 137 = .ok (.aload_n 0, 1) := by decide +kernel
theorem dX12_count_138 : decode cX12_count 138 = .ok (.getfield 88, 3) := by decide +kernel
theorem dX12_count_141 : decode cX12_count 141 = .ok (.ireturn, 1) := by decide +kernel
theorem dX12_count_142 : decode cX12_count 142 = .ok (.aload_n 0, 1) := by decide +kernel
theorem dX12_count_143 : decode cX12_count 143 = .ok (.iconst 0, 1) := by decide +kernel
theorem dX12_count_144 : decode cX12_count 144 = .ok (.invokevirtual 116, 3) := by decide +kernel
theorem dX12_count_147 : decode cX12_count 147 = .ok (.istore_n 3, 1) := by decide +kernel
theorem dX12_count_148 : decode cX12_count 148 = .ok (.iload_n 3, 1) := by decide +kernel
theorem dX12_count_149 : decode cX12_count 149 = .ok (.ifCond .lt 20, 3) := by decide +kernel
theorem dX12_count_152 : decode cX12_count 152 = .ok (.iinc 2 1, 3) := by decide +kernel
theorem dX12_count_155 : decode cX12_count 155 = .ok (.aload_n 0, 1) := by decide +kernel
theorem dX12_count_156 : decode cX12_count 156 = .ok (.iload_n 3, 1) := by decide +kernel
theorem dX12_count_157 : decode cX12_count 157 = .ok (.aload_n 0, 1) := by decide +kernel
theorem dX12_count_158 : decode cX12_count 158 = .ok (.getfield 113, 3) := by decide +kernel
theorem dX12_count_161 : decode cX12_count 161 = .ok (.iadd, 1) := by decide +kernel
theorem dX12_count_162 : decode cX12_count 162 = .ok (.invokevirtual 116, 3) := by decide +kernel
theorem dX12_count_165 : decode cX12_count 165 = .ok (.istore_n 3, 1) := by decide +kernel
theorem dX12_count_166 : decode cX12_count 166 = .ok (.goto (-18), 3) := by decide +kernel
theorem dX12_count_169 : decode cX12_count 169 = .ok (.iload_n 2, 1) := by decide +kernel
theorem dX12_count_170 : decode cX12_count 170 = .ok (.ireturn, 1) := by decide +kernel
theorem dX12_count_171 : decode cX12_count 171 = .ok (.aload_n 0, 1) := by decide +kernel
theorem dX12_count_172 : decode cX12_count 172 = .ok (.iconst 0, 1) := by decide +kernel
theorem dX12_count_173 : decode cX12_count 173 = .ok (.invokevirtual 116, 3) := by decide +kernel
theorem dX12_count_176 : decode cX12_count 176 = .ok (.istore_n 3, 1) := by decide +kernel
theorem dX12_count_177 : decode cX12_count 177 = .ok (.iload_n 3, 1) := by decide +kernel
theorem dX12_count_178 : decode cX12_count 178 = .ok (.ifCond .lt 30, 3) := by decide +kernel
theorem dX12_count_181 : decode cX12_count 181 = .ok (.aload_n 0, 1) := by decide +kernel
theorem dX12_count_182 : decode cX12_count 182 = .ok (.getfield 113, 3) := by decide +kernel
theorem dX12_count_185 : decode cX12_count 185 = .ok (.iload_n 2, 1) := by decide +kernel
theorem dX12_count_186 : decode cX12_count 186 = .ok (.if_icmp .le 8, 3) := by decide +kernel
theorem dX12_count_189 : decode cX12_count 189 = .ok (.aload_n 0, 1) := by decide +kernel
theorem dX12_count_190 : decode cX12_count 190 = .ok (.getfield 113, 3) := by decide +kernel
theorem dX12_count_193 : decode cX12_count 193 = .ok (.istore_n 2, 1) := by decide +kernel
theorem dX12_count_194 : decode cX12_count 194 = .ok (.aload_n 0, 1) := by decide +kernel
theorem dX12_count_195 : decode cX12_count 195 = .ok (.iload_n 3, 1) := by decide +kernel
theorem dX12_count_196 : decode cX12_count 196 = .ok (.aload_n 0, 1) := by decide +kernel
theorem dX12_count_197 : decode cX12_count 197 = .ok (.getfield 113, 3) := by decide +kernel
theorem dX12_count_200 : decode cX12_count 200 = .ok (.iadd, 1) := by decide +kernel
theorem dX12_count_201 : decode cX12_count 201 = .ok (.invokevirtual 116, 3) := by decide +kernel
theorem dX12_count_204 : decode cX12_count 204 = .ok (.istore_n 3, 1) := by decide +kernel
theorem dX12_count_205 : decode cX12_count 205 = .ok (.goto (-28), 3) := by decide +kernel
theorem dX12_count_208 : decode cX12_count 208 = .ok (.iload_n 2, 1) := by decide +kernel
theorem dX12_count_209 : decode cX12_count 209 = .ok (.ireturn, 1) := by decide +kernel
theorem dX12_count_210 : decode cX12_count 210 = .ok (.aload_n 0, 1) := by decide +kernel
theorem dX12_count_211 : decode cX12_count 211 = .ok (.getfield 91, 3) := by decide +kernel
theorem dX12_count_214 : decode cX12_count 214 = .ok (.ireturn, 1) := by decide +kernel
theorem dX12_count_215 : decode cX12_count 215 = .ok (.iconst 1, 1) := by decide +kernel
theorem dX12_count_216 : decode cX12_count 216 = .ok (.istore_n 3, 1) := by decide +kernel
theorem dX12_count_217 : decode cX12_count 217 = .ok (.iload_n 3, 1) := by decide +kernel
theorem dX12_count_218 : decode cX12_count 218 = .ok (.aload_n 0, 1) := by decide +kernel
theorem dX12_count_219 : decode cX12_count 219 = .ok (.getfield 58, 3) := by decide +kernel
theorem dX12_count_222 : decode cX12_count 222 = .ok (.arraylength, 1) := by decide +kernel
theorem dX12_count_223 : decode cX12_count 223 = .ok (.if_icmp .ge 18, 3) := by decide +kernel
theorem dX12_count_226 : decode cX12_count 226 = .ok (.iload_n 2, 1) := by decide +kernel
theorem dX12_count_227 : decode cX12_count 227 = .ok (.aload_n 0, 1) := by decide +kernel
theorem dX12_count_228 : decode cX12_count 228 = .ok (.getfield 58, 3) := by decide +kernel
theorem dX12_count_231 : decode cX12_count 231 = .ok (.iload_n 3, 1) := by decide +kernel
theorem dX12_count_232 : decode cX12_count 232 = .ok (.iaload, 1) := by decide +kernel
theorem dX12_count_233 : decode cX12_count 233 = .ok (.iadd, 1) := by decide +kernel
theorem dX12_count_234 : decode cX12_count 234 = .ok (.istore_n 2, 1) := by decide +kernel
theorem dX12_count_235 : decode cX12_count 235 = .ok (.iinc 3 1, 3) := by decide +kernel
theorem dX12_count_238 : decode cX12_count 238 = .ok (.goto (-21), 3) := by decide +kernel
theorem dX12_count_241 : decode cX12_count 241 = .ok (.iload_n 2, 1) := by decide +kernel
theorem dX12_count_242 : decode cX12_count 242 = .ok (.ireturn, 1) := by decide +kernel
theorem dX12_count_243 : decode cX12_count 243 = .ok (.iconst 0, 1) := by decide +kernel
theorem dX12_count_244 : decode cX12_count 244 = .ok (.istore_n 3, 1) := by decide +kernel
theorem dX12_count_245 : decode cX12_count 245 = .ok (.iload_n 3, 1) := by decide +kernel
theorem dX12_count_246 : decode cX12_count 246 = .ok (.aload_n 0, 1) := by decide +kernel
theorem dX12_count_247 : decode cX12_count 247 = .ok (.getfield 76, 3) := by decide +kernel
theorem dX12_count_250 : decode cX12_count 250 = .ok (.if_icmp .ge 29, 3) := by decide +kernel
theorem dX12_count_253 : decode cX12_count 253 = .ok (.aload_n 0, 1) := by decide +kernel
theorem dX12_count_254 : decode cX12_count 254 = .ok (.getfield 13, 3) := by decide +kernel
theorem dX12_count_257 : decode cX12_count 257 = .ok (.iconst 4, 1) := by decide +kernel
theorem dX12_count_258 : decode cX12_count 258 = .ok (.if_icmp .ne 21, 3) := by decide +kernel
theorem dX12_count_261 : decode cX12_count 261 = .ok (.aload_n 0, 1) := by decide +kernel
theorem dX12_count_262 : decode cX12_count 262 = .ok (.getfield 32, 3) := by decide +kernel
theorem dX12_count_265 : decode cX12_count 265 = .ok (.iload_n 3, 1) := by decide +kernel
theorem dX12_count_266 : decode cX12_count 266 = .ok (.iaload, 1) := by decide +kernel
theorem dX12_count_267 : decode cX12_count 267 = .ok (.ifCond .le 6, 3) := by decide +kernel
theorem dX12_count_270 : decode cX12_count 270 = .ok (.iinc 2 1, 3) := by decide +kernel
theorem dX12_count_273 : decode cX12_count 273 = .ok (.iinc 3 1, 3) := by decide +kernel
theorem dX12_count_276 : decode cX12_count 276 = .ok (.goto (-31), 3) := by decide +kernel
theorem dX12_count_279 : decode cX12_count 279 = .ok (.iconst 0, 1) := by decide +kernel
theorem dX12_count_280 : decode cX12_count 280 = .ok (.istore_n 3, 1) := by decide +kernel
theorem dX12_count_281 : decode cX12_count 281 = .ok (.iload_n 3, 1) := by decide +kernel
theorem dX12_count_282 : decode cX12_count 282 = .ok (.aload_n 0, 1) := by decide +kernel
theorem dX12_count_283 : decode cX12_count 283 = .ok (.getfield 106, 3) := by decide +kernel
theorem dX12_count_286 : decode cX12_count 286 = .ok (.if_icmp .ge 29, 3) := by decide +kernel
theorem dX12_count_289 : decode cX12_count 289 = .ok (.aload_n 0, 1) := by decide +kernel
theorem dX12_count_290 : decode cX12_count 290 = .ok (.getfield 13, 3) := by decide +kernel
theorem dX12_count_293 : decode cX12_count 293 = .ok (.iconst 5, 1) := by decide +kernel
theorem dX12_count_294 : decode cX12_count 294 = .ok (.if_icmp .ne 21, 3) := by decide +kernel
theorem dX12_count_297 : decode cX12_count 297 = .ok (.aload_n 0, 1) := by decide +kernel
theorem dX12_count_298 : decode cX12_count 298 = .ok (.getfield 35, 3) := by decide +kernel
theorem dX12_count_301 : decode cX12_count 301 = .ok (.iload_n 3, 1) := by decide +kernel
theorem dX12_count_302 : decode cX12_count 302 = .ok (.iaload, 1) := by decide +kernel
theorem dX12_count_303 : decode cX12_count 303 = .ok (.ifCond .ne 6, 3) := by decide +kernel
theorem dX12_count_306 : decode cX12_count 306 = .ok (.iinc 2 1, 3) := by decide +kernel
theorem dX12_count_309 : decode cX12_count 309 = .ok (.iinc 3 1, 3) := by decide +kernel
theorem dX12_count_312 : decode cX12_count 312 = .ok (.goto (-31), 3) := by decide +kernel
theorem dX12_count_315 : decode cX12_count 315 = .ok (.iload_n 2, 1) := by decide +kernel
theorem dX12_count_316 : decode cX12_count 316 = .ok (.ireturn, 1) := by decide +kernel
theorem dX12_count_317 : decode cX12_count 317 = .ok (.aload_n 0, 1) := by decide +kernel
theorem dX12_count_318 : decode cX12_count 318 = .ok (.getfield 13, 3) := by decide +kernel
theorem dX12_count_321 : decode cX12_count 321 = .ok (.bipush 8, 2) := by decide +kernel
theorem dX12_count_323 : decode cX12_count 323 = .ok (.if_icmp .ne 10, 3) := by decide +kernel
theorem dX12_count_326 : decode cX12_count 326 = .ok (.aload_n 0, 1) := by decide +kernel
theorem dX12_count_327 : decode cX12_count 327 = .ok (.getfield 97, 3) := by decide +kernel
theorem dX12_count_330 : decode cX12_count 330 = .ok (.goto 4, 3) := by decide +kernel
theorem dX12_count_333 : decode cX12_count 333 = .ok (.iconst 0, 1) := by decide +kernel
theorem dX12_count_334 : decode cX12_count 334 = .ok (.ireturn, 1) := by decide +kernel
