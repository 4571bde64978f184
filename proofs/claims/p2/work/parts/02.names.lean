/-! ===== BEGIN words of one list among another's, by their places ===== -/
theorem goodIn_r {big : List Cond} (ws : List Cond) (ps : List Nat) (hp : ws = ps.filterMap (fun i => big[i]?)) (h : ws.all goodWord = true) : GoodIn big ws := by
  intro w hw
  have h1 := List.all_eq_true.mp h w hw
  rw [hp] at hw
  obtain ⟨i, -, hi⟩ := List.mem_filterMap.mp hw
  have hm : w ∈ big := by first | exact List.mem_of_getElem? hi | exact List.getElem?_mem hi
  exact ⟨hm, good_of_word h1⟩
theorem goodIn_app {big a b : List Cond} (ha : GoodIn big a) (hb : GoodIn big b) : GoodIn big (a ++ b) := fun w h => (List.mem_append.mp h).elim (ha w) (hb w)
theorem goodIn_ca {big a b : List Cond} {c : Cond} (ha : GoodIn big (c :: a)) (hb : GoodIn big b) : GoodIn big (c :: (a ++ b)) := fun w h => (List.mem_cons.mp h).elim (fun e => ha w (List.mem_cons.mpr (Or.inl e))) (fun h => (List.mem_append.mp h).elim (fun h => ha w (List.mem_cons.mpr (Or.inr h))) (hb w))
theorem goodIn_sub {big ws : List Cond} (hm : ∀ w ∈ ws, w ∈ big) (h : ws.all goodWord = true) : GoodIn big ws := fun w hw => ⟨hm w hw, good_of_word (List.all_eq_true.mp h w hw)⟩
/-! ===== END ===== -/
def RX0 : String := "RoomForms$Fits"
def TX0 : u_T := fun k => match k with
  | 0 => ("RoomForms$Form", "room", "LRoomForms$Room;", true)
  | 1 => ("RoomForms$Fits", "number", "I", true)
  | _ => ("RoomForms$Fits", "lastEnd", "I", false)
def tyX0 : Nat → FieldType := fun k => match k with
  | 0 => .object "RoomForms$Room"
  | 1 => .int
  | _ => .int
abbrev wsX00 : List Cond := u_ws RX0 TX0 3
theorem nmX0 : ∀ a, a < 3 → ∀ b, b < 3 → a ≠ b → (TX0 a).2.1 ≠ (TX0 b).2.1 := by decide +kernel
theorem tyX0_ok : ∀ k, k < 3 → parseFieldDescriptor (TX0 k).2.2.1 = some (tyX0 k) := by decide +kernel
abbrev cX0_init : ByteArray := prog_2_method_1_code
def yX0_init : MethodName := ⟨RX0, "<init>", "(LRoomForms$Room;I)V"⟩
abbrev cX0_begin : ByteArray := prog_2_method_2_code
def yX0_begin : MethodName := ⟨RX0, "begin", "()V"⟩
abbrev cX0_take : ByteArray := prog_2_method_3_code
def yX0_take : MethodName := ⟨RX0, "take", "(I)I"⟩
abbrev cX0_takeBack : ByteArray := prog_2_method_4_code
def yX0_takeBack : MethodName := ⟨RX0, "takeBack", "(II)V"⟩
def RX1 : String := "RoomForms$Form"
def TX1 : u_T := fun k => match k with
  | _ => ("", "", "", false)
def tyX1 : Nat → FieldType := fun k => match k with
  | _ => .int
abbrev wsX10 : List Cond := u_ws RX1 TX1 0
theorem nmX1 : ∀ a, a < 0 → ∀ b, b < 0 → a ≠ b → (TX1 a).2.1 ≠ (TX1 b).2.1 := by decide +kernel
theorem tyX1_ok : ∀ k, k < 0 → parseFieldDescriptor (TX1 k).2.2.1 = some (tyX1 k) := by decide +kernel
abbrev cX1_init : ByteArray := prog_3_method_1_code
def yX1_init : MethodName := ⟨RX1, "<init>", "(LRoomForms$Room;)V"⟩
abbrev cX1_spanOf : ByteArray := prog_3_method_5_code
def yX1_spanOf : MethodName := ⟨RX1, "spanOf", "(I)I"⟩
abbrev cX1_quickOnes : ByteArray := prog_3_method_6_code
def yX1_quickOnes : MethodName := ⟨RX1, "quickOnes", "()I"⟩
abbrev cX1_freeParts : ByteArray := prog_3_method_7_code
def yX1_freeParts : MethodName := ⟨RX1, "freeParts", "()I"⟩
abbrev cX1_top : ByteArray := prog_3_method_8_code
def yX1_top : MethodName := ⟨RX1, "top", "()I"⟩
abbrev cX1_placeInList : ByteArray := prog_3_method_9_code
def yX1_placeInList : MethodName := ⟨RX1, "placeInList", "(II)I"⟩
def RX2 : String := "RoomForms$Grains"
def TX2 : u_T := fun k => match k with
  | 0 => ("RoomForms$Form", "room", "LRoomForms$Room;", true)
  | _ => ("RoomForms$Grains", "grains", "I", false)
def tyX2 : Nat → FieldType := fun k => match k with
  | 0 => .object "RoomForms$Room"
  | _ => .int
abbrev wsX20 : List Cond := u_ws RX2 TX2 2
theorem nmX2 : ∀ a, a < 2 → ∀ b, b < 2 → a ≠ b → (TX2 a).2.1 ≠ (TX2 b).2.1 := by decide +kernel
theorem tyX2_ok : ∀ k, k < 2 → parseFieldDescriptor (TX2 k).2.2.1 = some (tyX2 k) := by decide +kernel
abbrev cX2_init : ByteArray := prog_4_method_1_code
def yX2_init : MethodName := ⟨RX2, "<init>", "(LRoomForms$Room;)V"⟩
abbrev cX2_begin : ByteArray := prog_4_method_2_code
def yX2_begin : MethodName := ⟨RX2, "begin", "()V"⟩
abbrev cX2_spanOf : ByteArray := prog_4_method_3_code
def yX2_spanOf : MethodName := ⟨RX2, "spanOf", "(I)I"⟩
abbrev cX2_take : ByteArray := prog_4_method_4_code
def yX2_take : MethodName := ⟨RX2, "take", "(I)I"⟩
abbrev cX2_areFree : ByteArray := prog_4_method_5_code
def yX2_areFree : MethodName := ⟨RX2, "areFree", "(II)Z"⟩
abbrev cX2_takeBack : ByteArray := prog_4_method_6_code
def yX2_takeBack : MethodName := ⟨RX2, "takeBack", "(II)V"⟩
def RX3 : String := "RoomForms$Halves"
def TX3 : u_T := fun k => match k with
  | 0 => ("RoomForms$Form", "room", "LRoomForms$Room;", true)
  | 1 => ("RoomForms$Halves", "pieces", "[I", true)
  | _ => ("RoomForms$Halves", "whole", "I", false)
def tyX3 : Nat → FieldType := fun k => match k with
  | 0 => .object "RoomForms$Room"
  | 1 => .array .int
  | _ => .int
abbrev wsX30 : List Cond := u_ws RX3 TX3 3
theorem nmX3 : ∀ a, a < 3 → ∀ b, b < 3 → a ≠ b → (TX3 a).2.1 ≠ (TX3 b).2.1 := by decide +kernel
theorem tyX3_ok : ∀ k, k < 3 → parseFieldDescriptor (TX3 k).2.2.1 = some (tyX3 k) := by decide +kernel
abbrev cX3_init : ByteArray := prog_5_method_1_code
def yX3_init : MethodName := ⟨RX3, "<init>", "(LRoomForms$Room;)V"⟩
abbrev cX3_begin : ByteArray := prog_5_method_2_code
def yX3_begin : MethodName := ⟨RX3, "begin", "()V"⟩
abbrev cX3_spanOf : ByteArray := prog_5_method_3_code
def yX3_spanOf : MethodName := ⟨RX3, "spanOf", "(I)I"⟩
abbrev cX3_take : ByteArray := prog_5_method_4_code
def yX3_take : MethodName := ⟨RX3, "take", "(I)I"⟩
abbrev cX3_smallestPiece : ByteArray := prog_5_method_5_code
def yX3_smallestPiece : MethodName := ⟨RX3, "smallestPiece", "(I)I"⟩
abbrev cX3_takeBack : ByteArray := prog_5_method_6_code
def yX3_takeBack : MethodName := ⟨RX3, "takeBack", "(II)V"⟩
abbrev cX3_freeParts : ByteArray := prog_5_method_7_code
def yX3_freeParts : MethodName := ⟨RX3, "freeParts", "()I"⟩
def RX4 : String := "RoomForms$Levels"
def TX4 : u_T := fun k => match k with
  | 0 => ("RoomForms$Form", "room", "LRoomForms$Room;", true)
  | _ => ("RoomForms$Levels", "runs", "LRoomForms$Stretches;", true)
def tyX4 : Nat → FieldType := fun k => match k with
  | 0 => .object "RoomForms$Room"
  | _ => .object "RoomForms$Stretches"
abbrev wsX40 : List Cond := u_ws RX4 TX4 2
theorem nmX4 : ∀ a, a < 2 → ∀ b, b < 2 → a ≠ b → (TX4 a).2.1 ≠ (TX4 b).2.1 := by decide +kernel
theorem tyX4_ok : ∀ k, k < 2 → parseFieldDescriptor (TX4 k).2.2.1 = some (tyX4 k) := by decide +kernel
abbrev cX4_init : ByteArray := prog_6_method_1_code
def yX4_init : MethodName := ⟨RX4, "<init>", "(LRoomForms$Room;)V"⟩
abbrev cX4_begin : ByteArray := prog_6_method_2_code
def yX4_begin : MethodName := ⟨RX4, "begin", "()V"⟩
abbrev cX4_take : ByteArray := prog_6_method_3_code
def yX4_take : MethodName := ⟨RX4, "take", "(I)I"⟩
abbrev cX4_findInListOf : ByteArray := prog_6_method_4_code
def yX4_findInListOf : MethodName := ⟨RX4, "findInListOf", "(I)I"⟩
abbrev cX4_firstOfLaterList : ByteArray := prog_6_method_5_code
def yX4_firstOfLaterList : MethodName := ⟨RX4, "firstOfLaterList", "(I)I"⟩
abbrev cX4_takeBack : ByteArray := prog_6_method_6_code
def yX4_takeBack : MethodName := ⟨RX4, "takeBack", "(II)V"⟩
abbrev cX4_placeInList : ByteArray := prog_6_method_7_code
def yX4_placeInList : MethodName := ⟨RX4, "placeInList", "(II)I"⟩
abbrev cX4_listOf : ByteArray := prog_6_method_8_code
def yX4_listOf : MethodName := ⟨RX4, "listOf", "(I)I"⟩
def RX5 : String := "RoomForms$Pages"
def TX5 : u_T := fun k => match k with
  | 0 => ("RoomForms$Form", "room", "LRoomForms$Room;", true)
  | 1 => ("RoomForms$Pages", "spans", "[I", true)
  | 2 => ("RoomForms$Pages", "blocks", "[I", true)
  | _ => ("RoomForms$Pages", "pages", "I", false)
def tyX5 : Nat → FieldType := fun k => match k with
  | 0 => .object "RoomForms$Room"
  | 1 => .array .int
  | 2 => .array .int
  | _ => .int
abbrev wsX50 : List Cond := u_ws RX5 TX5 4
theorem nmX5 : ∀ a, a < 4 → ∀ b, b < 4 → a ≠ b → (TX5 a).2.1 ≠ (TX5 b).2.1 := by decide +kernel
theorem tyX5_ok : ∀ k, k < 4 → parseFieldDescriptor (TX5 k).2.2.1 = some (tyX5 k) := by decide +kernel
abbrev cX5_init : ByteArray := prog_7_method_1_code
def yX5_init : MethodName := ⟨RX5, "<init>", "(LRoomForms$Room;)V"⟩
abbrev cX5_begin : ByteArray := prog_7_method_2_code
def yX5_begin : MethodName := ⟨RX5, "begin", "()V"⟩
abbrev cX5_spanOf : ByteArray := prog_7_method_3_code
def yX5_spanOf : MethodName := ⟨RX5, "spanOf", "(I)I"⟩
abbrev cX5_take : ByteArray := prog_7_method_4_code
def yX5_take : MethodName := ⟨RX5, "take", "(I)I"⟩
abbrev cX5_takeInPageOf : ByteArray := prog_7_method_5_code
def yX5_takeInPageOf : MethodName := ⟨RX5, "takeInPageOf", "(I)I"⟩
abbrev cX5_freePlaceIn : ByteArray := prog_7_method_6_code
def yX5_freePlaceIn : MethodName := ⟨RX5, "freePlaceIn", "(II)I"⟩
abbrev cX5_takeRow : ByteArray := prog_7_method_7_code
def yX5_takeRow : MethodName := ⟨RX5, "takeRow", "(II)I"⟩
abbrev cX5_setPages : ByteArray := prog_7_method_8_code
def yX5_setPages : MethodName := ⟨RX5, "setPages", "(III)V"⟩
abbrev cX5_takeBack : ByteArray := prog_7_method_9_code
def yX5_takeBack : MethodName := ⟨RX5, "takeBack", "(II)V"⟩
abbrev cX5_freeParts : ByteArray := prog_7_method_10_code
def yX5_freeParts : MethodName := ⟨RX5, "freeParts", "()I"⟩
def RX6 : String := "RoomForms$Quick"
def TX6 : u_T := fun k => match k with
  | 0 => ("RoomForms$Form", "room", "LRoomForms$Room;", true)
  | _ => ("RoomForms$Quick", "quick", "LRoomForms$Stretches;", true)
def tyX6 : Nat → FieldType := fun k => match k with
  | 0 => .object "RoomForms$Room"
  | _ => .object "RoomForms$Stretches"
abbrev wsX60 : List Cond := u_ws RX6 TX6 2
theorem nmX6 : ∀ a, a < 2 → ∀ b, b < 2 → a ≠ b → (TX6 a).2.1 ≠ (TX6 b).2.1 := by decide +kernel
theorem tyX6_ok : ∀ k, k < 2 → parseFieldDescriptor (TX6 k).2.2.1 = some (tyX6 k) := by decide +kernel
abbrev cX6_init : ByteArray := prog_8_method_1_code
def yX6_init : MethodName := ⟨RX6, "<init>", "(LRoomForms$Room;)V"⟩
abbrev cX6_begin : ByteArray := prog_8_method_2_code
def yX6_begin : MethodName := ⟨RX6, "begin", "()V"⟩
abbrev cX6_take : ByteArray := prog_8_method_3_code
def yX6_take : MethodName := ⟨RX6, "take", "(I)I"⟩
abbrev cX6_takeQuick : ByteArray := prog_8_method_4_code
def yX6_takeQuick : MethodName := ⟨RX6, "takeQuick", "(I)I"⟩
abbrev cX6_takeFirst : ByteArray := prog_8_method_5_code
def yX6_takeFirst : MethodName := ⟨RX6, "takeFirst", "(I)I"⟩
abbrev cX6_emptyRows : ByteArray := prog_8_method_6_code
def yX6_emptyRows : MethodName := ⟨RX6, "emptyRows", "()V"⟩
abbrev cX6_takeBack : ByteArray := prog_8_method_7_code
def yX6_takeBack : MethodName := ⟨RX6, "takeBack", "(II)V"⟩
abbrev cX6_quickOnes : ByteArray := prog_8_method_8_code
def yX6_quickOnes : MethodName := ⟨RX6, "quickOnes", "()I"⟩
def RX7 : String := "RoomForms$Room"
def TX7 : u_T := fun k => match k with
  | 0 => ("RoomForms$Room", "owners", "[I", true)
  | 1 => ("RoomForms$Room", "numbers", "[I", true)
  | 2 => ("RoomForms$Room", "places", "[I", true)
  | 3 => ("RoomForms$Room", "spans", "[I", true)
  | 4 => ("RoomForms$Room", "asked", "[I", true)
  | 5 => ("RoomForms$Room", "runs", "LRoomForms$Stretches;", true)
  | 6 => ("RoomForms$Room", "words", "I", false)
  | 7 => ("RoomForms$Room", "blocks", "I", false)
  | 8 => ("RoomForms$Room", "given", "I", false)
  | _ => ("RoomForms$Room", "looked", "I", false)
def tyX7 : Nat → FieldType := fun k => match k with
  | 0 => .array .int
  | 1 => .array .int
  | 2 => .array .int
  | 3 => .array .int
  | 4 => .array .int
  | 5 => .object "RoomForms$Stretches"
  | 6 => .int
  | 7 => .int
  | 8 => .int
  | _ => .int
abbrev wsX70 : List Cond := u_ws RX7 TX7 10
theorem nmX7 : ∀ a, a < 10 → ∀ b, b < 10 → a ≠ b → (TX7 a).2.1 ≠ (TX7 b).2.1 := by decide +kernel
theorem tyX7_ok : ∀ k, k < 10 → parseFieldDescriptor (TX7 k).2.2.1 = some (tyX7 k) := by decide +kernel
abbrev cX7_init : ByteArray := prog_9_method_1_code
def yX7_init : MethodName := ⟨RX7, "<init>", "()V"⟩
abbrev cX7_empty : ByteArray := prog_9_method_2_code
def yX7_empty : MethodName := ⟨RX7, "empty", "(I)V"⟩
abbrev cX7_words : ByteArray := prog_9_method_3_code
def yX7_words : MethodName := ⟨RX7, "words", "()I"⟩
abbrev cX7_blocks : ByteArray := prog_9_method_4_code
def yX7_blocks : MethodName := ⟨RX7, "blocks", "()I"⟩
abbrev cX7_given : ByteArray := prog_9_method_5_code
def yX7_given : MethodName := ⟨RX7, "given", "()I"⟩
abbrev cX7_looked : ByteArray := prog_9_method_6_code
def yX7_looked : MethodName := ⟨RX7, "looked", "()I"⟩
abbrev cX7_addLooked : ByteArray := prog_9_method_7_code
def yX7_addLooked : MethodName := ⟨RX7, "addLooked", "(I)V"⟩
abbrev cX7_settle : ByteArray := prog_9_method_8_code
def yX7_settle : MethodName := ⟨RX7, "settle", "(III)I"⟩
abbrev cX7_remove : ByteArray := prog_9_method_9_code
def yX7_remove : MethodName := ⟨RX7, "remove", "(I)V"⟩
abbrev cX7_markQuick : ByteArray := prog_9_method_10_code
def yX7_markQuick : MethodName := ⟨RX7, "markQuick", "(II)V"⟩
abbrev cX7_markFree : ByteArray := prog_9_method_11_code
def yX7_markFree : MethodName := ⟨RX7, "markFree", "(II)V"⟩
abbrev cX7_mark : ByteArray := prog_9_method_12_code
def yX7_mark : MethodName := ⟨RX7, "mark", "(III)V"⟩
abbrev cX7_slotOf : ByteArray := prog_9_method_13_code
def yX7_slotOf : MethodName := ⟨RX7, "slotOf", "(I)I"⟩
abbrev cX7_placeOf : ByteArray := prog_9_method_14_code
def yX7_placeOf : MethodName := ⟨RX7, "placeOf", "(I)I"⟩
abbrev cX7_spanOf : ByteArray := prog_9_method_15_code
def yX7_spanOf : MethodName := ⟨RX7, "spanOf", "(I)I"⟩
abbrev cX7_askedOf : ByteArray := prog_9_method_16_code
def yX7_askedOf : MethodName := ⟨RX7, "askedOf", "(I)I"⟩
abbrev cX7_blockAt : ByteArray := prog_9_method_17_code
def yX7_blockAt : MethodName := ⟨RX7, "blockAt", "(I)I"⟩
abbrev cX7_isFree : ByteArray := prog_9_method_18_code
def yX7_isFree : MethodName := ⟨RX7, "isFree", "(I)Z"⟩
abbrev cX7_askedTogether : ByteArray := prog_9_method_19_code
def yX7_askedTogether : MethodName := ⟨RX7, "askedTogether", "()I"⟩
abbrev cX7_spansTogether : ByteArray := prog_9_method_20_code
def yX7_spansTogether : MethodName := ⟨RX7, "spansTogether", "()I"⟩
abbrev cX7_listRuns : ByteArray := prog_9_method_21_code
def yX7_listRuns : MethodName := ⟨RX7, "listRuns", "()LRoomForms$Stretches;"⟩
def RX8 : String := "RoomForms$Search"
def TX8 : u_T := fun k => match k with
  | 0 => ("RoomForms$Search", "rooms", "[I", true)
  | 1 => ("RoomForms$Search", "slots", "[I", true)
  | 2 => ("RoomForms$Search", "runs", "LRoomForms$Stretches;", true)
  | 3 => ("RoomForms$Search", "base", "I", false)
  | 4 => ("RoomForms$Search", "met", "I", false)
  | 5 => ("RoomForms$Search", "form", "I", false)
  | 6 => ("RoomForms$Search", "most", "I", false)
  | 7 => ("RoomForms$Search", "live", "I", false)
  | _ => ("RoomForms$Search", "words", "I", false)
def tyX8 : Nat → FieldType := fun k => match k with
  | 0 => .array .int
  | 1 => .array .int
  | 2 => .object "RoomForms$Stretches"
  | 3 => .int
  | 4 => .int
  | 5 => .int
  | 6 => .int
  | 7 => .int
  | _ => .int
abbrev wsX80 : List Cond := u_ws RX8 TX8 9
theorem nmX8 : ∀ a, a < 9 → ∀ b, b < 9 → a ≠ b → (TX8 a).2.1 ≠ (TX8 b).2.1 := by decide +kernel
theorem tyX8_ok : ∀ k, k < 9 → parseFieldDescriptor (TX8 k).2.2.1 = some (tyX8 k) := by decide +kernel
abbrev cX8_init : ByteArray := prog_10_method_1_code
def yX8_init : MethodName := ⟨RX8, "<init>", "()V"⟩
abbrev cX8_met : ByteArray := prog_10_method_2_code
def yX8_met : MethodName := ⟨RX8, "met", "()I"⟩
abbrev cX8_leastWords : ByteArray := prog_10_method_3_code
def yX8_leastWords : MethodName := ⟨RX8, "leastWords", "(III)I"⟩
abbrev cX8_lookAtAll : ByteArray := prog_10_method_4_code
def yX8_lookAtAll : MethodName := ⟨RX8, "lookAtAll", "()I"⟩
abbrev cX8_lookAt : ByteArray := prog_10_method_5_code
def yX8_lookAt : MethodName := ⟨RX8, "lookAt", "(I)I"⟩
abbrev cX8_askAll : ByteArray := prog_10_method_6_code
def yX8_askAll : MethodName := ⟨RX8, "askAll", "(III)I"⟩
abbrev cX8_giveAllBack : ByteArray := prog_10_method_7_code
def yX8_giveAllBack : MethodName := ⟨RX8, "giveAllBack", "(III)I"⟩
abbrev cX8_blockFrom : ByteArray := prog_10_method_8_code
def yX8_blockFrom : MethodName := ⟨RX8, "blockFrom", "(III)I"⟩
abbrev cX8_listRuns : ByteArray := prog_10_method_9_code
def yX8_listRuns : MethodName := ⟨RX8, "listRuns", "(I)V"⟩
abbrev cX8_meet : ByteArray := prog_10_method_10_code
def yX8_meet : MethodName := ⟨RX8, "meet", "(III)Z"⟩
abbrev cX8_addRoom : ByteArray := prog_10_method_11_code
def yX8_addRoom : MethodName := ⟨RX8, "addRoom", "(II)Z"⟩
def RX9 : String := "RoomForms$Stack"
def TX9 : u_T := fun k => match k with
  | 0 => ("RoomForms$Form", "room", "LRoomForms$Room;", true)
  | _ => ("RoomForms$Stack", "top", "I", false)
def tyX9 : Nat → FieldType := fun k => match k with
  | 0 => .object "RoomForms$Room"
  | _ => .int
abbrev wsX90 : List Cond := u_ws RX9 TX9 2
theorem nmX9 : ∀ a, a < 2 → ∀ b, b < 2 → a ≠ b → (TX9 a).2.1 ≠ (TX9 b).2.1 := by decide +kernel
theorem tyX9_ok : ∀ k, k < 2 → parseFieldDescriptor (TX9 k).2.2.1 = some (tyX9 k) := by decide +kernel
abbrev cX9_init : ByteArray := prog_11_method_1_code
def yX9_init : MethodName := ⟨RX9, "<init>", "(LRoomForms$Room;)V"⟩
abbrev cX9_begin : ByteArray := prog_11_method_2_code
def yX9_begin : MethodName := ⟨RX9, "begin", "()V"⟩
abbrev cX9_take : ByteArray := prog_11_method_3_code
def yX9_take : MethodName := ⟨RX9, "take", "(I)I"⟩
abbrev cX9_takeBack : ByteArray := prog_11_method_4_code
def yX9_takeBack : MethodName := ⟨RX9, "takeBack", "(II)V"⟩
abbrev cX9_top : ByteArray := prog_11_method_5_code
def yX9_top : MethodName := ⟨RX9, "top", "()I"⟩
def RX10 : String := "RoomForms$Stretches"
def TX10 : u_T := fun k => match k with
  | 0 => ("RoomForms$Stretches", "places", "[I", true)
  | 1 => ("RoomForms$Stretches", "words", "[I", true)
  | 2 => ("RoomForms$Stretches", "size", "I", false)
  | _ => ("RoomForms$Stretches", "looked", "I", false)
def tyX10 : Nat → FieldType := fun k => match k with
  | 0 => .array .int
  | 1 => .array .int
  | 2 => .int
  | _ => .int
abbrev wsX100 : List Cond := u_ws RX10 TX10 4
theorem nmX10 : ∀ a, a < 4 → ∀ b, b < 4 → a ≠ b → (TX10 a).2.1 ≠ (TX10 b).2.1 := by decide +kernel
theorem tyX10_ok : ∀ k, k < 4 → parseFieldDescriptor (TX10 k).2.2.1 = some (tyX10 k) := by decide +kernel
abbrev cX10_init : ByteArray := prog_12_method_1_code
def yX10_init : MethodName := ⟨RX10, "<init>", "(I)V"⟩
abbrev cX10_clear : ByteArray := prog_12_method_2_code
def yX10_clear : MethodName := ⟨RX10, "clear", "()V"⟩
abbrev cX10_size : ByteArray := prog_12_method_3_code
def yX10_size : MethodName := ⟨RX10, "size", "()I"⟩
abbrev cX10_add : ByteArray := prog_12_method_4_code
def yX10_add : MethodName := ⟨RX10, "add", "(II)V"⟩
abbrev cX10_remove : ByteArray := prog_12_method_5_code
def yX10_remove : MethodName := ⟨RX10, "remove", "(I)V"⟩
abbrev cX10_placeOf : ByteArray := prog_12_method_6_code
def yX10_placeOf : MethodName := ⟨RX10, "placeOf", "(I)I"⟩
abbrev cX10_wordsOf : ByteArray := prog_12_method_7_code
def yX10_wordsOf : MethodName := ⟨RX10, "wordsOf", "(I)I"⟩
abbrev cX10_endOf : ByteArray := prog_12_method_8_code
def yX10_endOf : MethodName := ⟨RX10, "endOf", "(I)I"⟩
abbrev cX10_mostWords : ByteArray := prog_12_method_9_code
def yX10_mostWords : MethodName := ⟨RX10, "mostWords", "()I"⟩
abbrev cX10_looked : ByteArray := prog_12_method_10_code
def yX10_looked : MethodName := ⟨RX10, "looked", "()I"⟩
abbrev cX10_find : ByteArray := prog_12_method_11_code
def yX10_find : MethodName := ⟨RX10, "find", "(III)I"⟩
abbrev cX10_firstFit : ByteArray := prog_12_method_12_code
def yX10_firstFit : MethodName := ⟨RX10, "firstFit", "(I)I"⟩
abbrev cX10_nextFit : ByteArray := prog_12_method_13_code
def yX10_nextFit : MethodName := ⟨RX10, "nextFit", "(II)I"⟩
abbrev cX10_bestFit : ByteArray := prog_12_method_14_code
def yX10_bestFit : MethodName := ⟨RX10, "bestFit", "(I)I"⟩
abbrev cX10_greatestFit : ByteArray := prog_12_method_15_code
def yX10_greatestFit : MethodName := ⟨RX10, "greatestFit", "(I)I"⟩
def RX11 : String := "RoomForms"
def TX11 : u_T := fun k => match k with
  | 0 => ("RoomForms", "room", "LRoomForms$Room;", true)
  | 1 => ("RoomForms", "forms", "[LRoomForms$Form;", true)
  | 2 => ("RoomForms", "form", "LRoomForms$Form;", false)
  | 3 => ("RoomForms", "formNumber", "I", false)
  | _ => ("RoomForms", "search", "LRoomForms$Search;", false)
def tyX11 : Nat → FieldType := fun k => match k with
  | 0 => .object "RoomForms$Room"
  | 1 => .array (.object "RoomForms$Form")
  | 2 => .object "RoomForms$Form"
  | 3 => .int
  | _ => .object "RoomForms$Search"
abbrev wsX110 : List Cond := u_ws RX11 TX11 5
theorem nmX11 : ∀ a, a < 5 → ∀ b, b < 5 → a ≠ b → (TX11 a).2.1 ≠ (TX11 b).2.1 := by decide +kernel
theorem tyX11_ok : ∀ k, k < 5 → parseFieldDescriptor (TX11 k).2.2.1 = some (tyX11 k) := by decide +kernel
abbrev cX11_init : ByteArray := prog_1_method_1_code
def yX11_init : MethodName := ⟨RX11, "<init>", "()V"⟩
abbrev cX11_open : ByteArray := prog_1_method_2_code
def yX11_open : MethodName := ⟨RX11, "open", "(II)V"⟩
abbrev cX11_give : ByteArray := prog_1_method_3_code
def yX11_give : MethodName := ⟨RX11, "give", "(I)I"⟩
abbrev cX11_back : ByteArray := prog_1_method_4_code
def yX11_back : MethodName := ⟨RX11, "back", "(I)I"⟩
abbrev cX11_about : ByteArray := prog_1_method_5_code
def yX11_about : MethodName := ⟨RX11, "about", "(II)I"⟩
abbrev cX11_at : ByteArray := prog_1_method_6_code
def yX11_at : MethodName := ⟨RX11, "at", "(I)I"⟩
abbrev cX11_run : ByteArray := prog_1_method_7_code
def yX11_run : MethodName := ⟨RX11, "run", "(II)I"⟩
abbrev cX11_list : ByteArray := prog_1_method_8_code
def yX11_list : MethodName := ⟨RX11, "list", "(II)I"⟩
abbrev cX11_worst : ByteArray := prog_1_method_9_code
def yX11_worst : MethodName := ⟨RX11, "worst", "(III)I"⟩
abbrev cX11_count : ByteArray := prog_1_method_10_code
def yX11_count : MethodName := ⟨RX11, "count", "(I)I"⟩
abbrev cX11_countInRoom : ByteArray := prog_1_method_11_code
def yX11_countInRoom : MethodName := ⟨RX11, "countInRoom", "(I)I"⟩
abbrev cX11_countInForm : ByteArray := prog_1_method_12_code
def yX11_countInForm : MethodName := ⟨RX11, "countInForm", "(I)I"⟩
abbrev cX11_needRoom : ByteArray := prog_1_method_13_code
def yX11_needRoom : MethodName := ⟨RX11, "needRoom", "()V"⟩
abbrev cX11_needBlock : ByteArray := prog_1_method_14_code
def yX11_needBlock : MethodName := ⟨RX11, "needBlock", "(I)I"⟩
abbrev cX11_powerFrom : ByteArray := prog_1_method_15_code
def yX11_powerFrom : MethodName := ⟨RX11, "powerFrom", "(I)I"⟩
def RX12 : String := "RoomFormsModel"
def TX12 : u_T := fun k => match k with
  | 0 => ("RoomFormsModel", "thrown", "I", false)
  | 1 => ("RoomFormsModel", "form", "I", false)
  | 2 => ("RoomFormsModel", "words", "I", false)
  | 3 => ("RoomFormsModel", "blocks", "I", false)
  | 4 => ("RoomFormsModel", "numbers", "I", false)
  | 5 => ("RoomFormsModel", "asked", "I", false)
  | 6 => ("RoomFormsModel", "spans", "I", false)
  | 7 => ("RoomFormsModel", "looked", "I", false)
  | 8 => ("RoomFormsModel", "lastEnd", "I", false)
  | 9 => ("RoomFormsModel", "top", "I", false)
  | 10 => ("RoomFormsModel", "owner", "[I", true)
  | 11 => ("RoomFormsModel", "number", "[I", true)
  | 12 => ("RoomFormsModel", "place", "[I", true)
  | 13 => ("RoomFormsModel", "span", "[I", true)
  | 14 => ("RoomFormsModel", "asks", "[I", true)
  | 15 => ("RoomFormsModel", "piece", "[I", true)
  | 16 => ("RoomFormsModel", "whole", "I", false)
  | 17 => ("RoomFormsModel", "page", "[I", true)
  | 18 => ("RoomFormsModel", "pages", "I", false)
  | 19 => ("RoomFormsModel", "list", "[I", true)
  | 20 => ("RoomFormsModel", "listMany", "[I", true)
  | 21 => ("RoomFormsModel", "stackPlace", "[I", true)
  | 22 => ("RoomFormsModel", "stackSpan", "[I", true)
  | 23 => ("RoomFormsModel", "isGone", "[Z", true)
  | 24 => ("RoomFormsModel", "stacked", "I", false)
  | 25 => ("RoomFormsModel", "quick", "[I", true)
  | 26 => ("RoomFormsModel", "quickMany", "[I", true)
  | 27 => ("RoomFormsModel", "runSize", "I", false)
  | 28 => ("RoomFormsModel", "newSpan", "I", false)
  | 29 => ("RoomFormsModel", "room", "[J", true)
  | 30 => ("RoomFormsModel", "slots", "[I", true)
  | 31 => ("RoomFormsModel", "rooms", "I", false)
  | 32 => ("RoomFormsModel", "has", "[I", true)
  | 33 => ("RoomFormsModel", "roomWords", "I", false)
  | 34 => ("RoomFormsModel", "roomEnd", "I", false)
  | _ => ("RoomFormsModel", "roomAsked", "I", false)
def tyX12 : Nat → FieldType := fun k => match k with
  | 0 => .int
  | 1 => .int
  | 2 => .int
  | 3 => .int
  | 4 => .int
  | 5 => .int
  | 6 => .int
  | 7 => .int
  | 8 => .int
  | 9 => .int
  | 10 => .array .int
  | 11 => .array .int
  | 12 => .array .int
  | 13 => .array .int
  | 14 => .array .int
  | 15 => .array .int
  | 16 => .int
  | 17 => .array .int
  | 18 => .int
  | 19 => .array .int
  | 20 => .array .int
  | 21 => .array .int
  | 22 => .array .int
  | 23 => .array .boolean
  | 24 => .int
  | 25 => .array .int
  | 26 => .array .int
  | 27 => .int
  | 28 => .int
  | 29 => .array .long
  | 30 => .array .int
  | 31 => .int
  | 32 => .array .int
  | 33 => .int
  | 34 => .int
  | _ => .int
abbrev wsX120 : List Cond := u_ws RX12 TX12 36
theorem nmX12 : ∀ a, a < 36 → ∀ b, b < 36 → a ≠ b → (TX12 a).2.1 ≠ (TX12 b).2.1 := by decide +kernel
theorem tyX12_ok : ∀ k, k < 36 → parseFieldDescriptor (TX12 k).2.2.1 = some (tyX12 k) := by decide +kernel
abbrev cX12_thrown : ByteArray := prog_14_method_1_code
def yX12_thrown : MethodName := ⟨RX12, "thrown", "()I"⟩
abbrev cX12_fails : ByteArray := prog_14_method_2_code
def yX12_fails : MethodName := ⟨RX12, "fails", "(I)Z"⟩
abbrev cX12_init : ByteArray := prog_14_method_3_code
def yX12_init : MethodName := ⟨RX12, "<init>", "()V"⟩
abbrev cX12_open : ByteArray := prog_14_method_4_code
def yX12_open : MethodName := ⟨RX12, "open", "(II)V"⟩
abbrev cX12_runFrom : ByteArray := prog_14_method_5_code
def yX12_runFrom : MethodName := ⟨RX12, "runFrom", "(I)I"⟩
abbrev cX12_firstRun : ByteArray := prog_14_method_6_code
def yX12_firstRun : MethodName := ⟨RX12, "firstRun", "(III)I"⟩
abbrev cX12_bestRun : ByteArray := prog_14_method_7_code
def yX12_bestRun : MethodName := ⟨RX12, "bestRun", "(I)I"⟩
abbrev cX12_halves : ByteArray := prog_14_method_8_code
def yX12_halves : MethodName := ⟨RX12, "halves", "(I)I"⟩
abbrev cX12_join : ByteArray := prog_14_method_9_code
def yX12_join : MethodName := ⟨RX12, "join", "(II)V"⟩
abbrev cX12_power : ByteArray := prog_14_method_10_code
def yX12_power : MethodName := ⟨RX12, "power", "(I)I"⟩
abbrev cX12_isFree : ByteArray := prog_14_method_11_code
def yX12_isFree : MethodName := ⟨RX12, "isFree", "(II)Z"⟩
abbrev cX12_classes : ByteArray := prog_14_method_12_code
def yX12_classes : MethodName := ⟨RX12, "classes", "(I)I"⟩
abbrev cX12_rowOfPages : ByteArray := prog_14_method_13_code
def yX12_rowOfPages : MethodName := ⟨RX12, "rowOfPages", "(I)I"⟩
abbrev cX12_bits : ByteArray := prog_14_method_14_code
def yX12_bits : MethodName := ⟨RX12, "bits", "(I)I"⟩
abbrev cX12_listOf : ByteArray := prog_14_method_15_code
def yX12_listOf : MethodName := ⟨RX12, "listOf", "(I)I"⟩
abbrev cX12_toList : ByteArray := prog_14_method_16_code
def yX12_toList : MethodName := ⟨RX12, "toList", "(II)V"⟩
abbrev cX12_fromList : ByteArray := prog_14_method_17_code
def yX12_fromList : MethodName := ⟨RX12, "fromList", "(II)V"⟩
abbrev cX12_sizeAt : ByteArray := prog_14_method_18_code
def yX12_sizeAt : MethodName := ⟨RX12, "sizeAt", "(I)I"⟩
abbrev cX12_levels : ByteArray := prog_14_method_19_code
def yX12_levels : MethodName := ⟨RX12, "levels", "(I)I"⟩
abbrev cX12_joinRuns : ByteArray := prog_14_method_20_code
def yX12_joinRuns : MethodName := ⟨RX12, "joinRuns", "(II)V"⟩
abbrev cX12_emptyQuick : ByteArray := prog_14_method_21_code
def yX12_emptyQuick : MethodName := ⟨RX12, "emptyQuick", "()V"⟩
abbrev cX12_quick : ByteArray := prog_14_method_22_code
def yX12_quick : MethodName := ⟨RX12, "quick", "(I)I"⟩
abbrev cX12_find : ByteArray := prog_14_method_23_code
def yX12_find : MethodName := ⟨RX12, "find", "(I)I"⟩
abbrev cX12_give : ByteArray := prog_14_method_24_code
def yX12_give : MethodName := ⟨RX12, "give", "(I)I"⟩
abbrev cX12_isUsed : ByteArray := prog_14_method_25_code
def yX12_isUsed : MethodName := ⟨RX12, "isUsed", "(I)Z"⟩
abbrev cX12_isThere : ByteArray := prog_14_method_26_code
def yX12_isThere : MethodName := ⟨RX12, "isThere", "(I)Z"⟩
abbrev cX12_blockOf : ByteArray := prog_14_method_27_code
def yX12_blockOf : MethodName := ⟨RX12, "blockOf", "(I)I"⟩
abbrev cX12_back : ByteArray := prog_14_method_28_code
def yX12_back : MethodName := ⟨RX12, "back", "(I)I"⟩
abbrev cX12_freePages : ByteArray := prog_14_method_29_code
def yX12_freePages : MethodName := ⟨RX12, "freePages", "(II)V"⟩
abbrev cX12_sink : ByteArray := prog_14_method_30_code
def yX12_sink : MethodName := ⟨RX12, "sink", "(I)V"⟩
abbrev cX12_about : ByteArray := prog_14_method_31_code
def yX12_about : MethodName := ⟨RX12, "about", "(II)I"⟩
abbrev cX12_at : ByteArray := prog_14_method_32_code
def yX12_at : MethodName := ⟨RX12, "at", "(I)I"⟩
abbrev cX12_run : ByteArray := prog_14_method_33_code
def yX12_run : MethodName := ⟨RX12, "run", "(II)I"⟩
abbrev cX12_list : ByteArray := prog_14_method_34_code
def yX12_list : MethodName := ⟨RX12, "list", "(II)I"⟩
abbrev cX12_take : ByteArray := prog_14_method_35_code
def yX12_take : MethodName := ⟨RX12, "take", "(J)V"⟩
abbrev cX12_roomNumber : ByteArray := prog_14_method_36_code
def yX12_roomNumber : MethodName := ⟨RX12, "roomNumber", "()J"⟩
abbrev cX12_placeIn : ByteArray := prog_14_method_37_code
def yX12_placeIn : MethodName := ⟨RX12, "placeIn", "(II)I"⟩
abbrev cX12_freeAt : ByteArray := prog_14_method_38_code
def yX12_freeAt : MethodName := ⟨RX12, "freeAt", "(I)I"⟩
abbrev cX12_fitFrom : ByteArray := prog_14_method_39_code
def yX12_fitFrom : MethodName := ⟨RX12, "fitFrom", "(III)I"⟩
abbrev cX12_come : ByteArray := prog_14_method_40_code
def yX12_come : MethodName := ⟨RX12, "come", "()Z"⟩
abbrev cX12_holds : ByteArray := prog_14_method_41_code
def yX12_holds : MethodName := ⟨RX12, "holds", "(IIII)I"⟩
abbrev cX12_worst : ByteArray := prog_14_method_42_code
def yX12_worst : MethodName := ⟨RX12, "worst", "(III)I"⟩
abbrev cX12_count : ByteArray := prog_14_method_43_code
def yX12_count : MethodName := ⟨RX12, "count", "(I)I"⟩
def RJ6 : String := "java/lang/Integer"
def TJ6 : u_T := fun k => match k with
  | _ => ("", "", "", false)
def tyJ6 : Nat → FieldType := fun k => match k with
  | _ => .int
abbrev wsJ60 : List Cond := u_ws RJ6 TJ6 0
theorem tyJ6_ok : ∀ k, k < 0 → parseFieldDescriptor (TJ6 k).2.2.1 = some (tyJ6 k) := by decide +kernel
abbrev cJ6_bitCount_0f7a4 : ByteArray := prog_19_method_49_code
def yJ6_bitCount_0f7a4 : MethodName := ⟨RJ6, "bitCount", "(I)I"⟩
def RJ9 : String := "java/lang/Math"
def TJ9 : u_T := fun k => match k with
  | _ => ("", "", "", false)
def tyJ9 : Nat → FieldType := fun k => match k with
  | _ => .int
abbrev wsJ90 : List Cond := u_ws RJ9 TJ9 0
theorem tyJ9_ok : ∀ k, k < 0 → parseFieldDescriptor (TJ9 k).2.2.1 = some (tyJ9 k) := by decide +kernel
abbrev cJ9_max_7cf53 : ByteArray := prog_20_method_65_code
def yJ9_max_7cf53 : MethodName := ⟨RJ9, "max", "(II)I"⟩
abbrev cJ9_min_7cf53 : ByteArray := prog_20_method_69_code
def yJ9_min_7cf53 : MethodName := ⟨RJ9, "min", "(II)I"⟩
def RJ0 : String := "java/lang/String"
def TJ0 : u_T := fun k => match k with
  | _ => ("", "", "", false)
def tyJ0 : Nat → FieldType := fun k => match k with
  | _ => .int
abbrev wsJ00 : List Cond := u_ws RJ0 TJ0 0
theorem tyJ0_ok : ∀ k, k < 0 → parseFieldDescriptor (TJ0 k).2.2.1 = some (tyJ0 k) := by decide +kernel
def RJ10 : String := "java/lang/System"
def TJ10 : u_T := fun k => match k with
  | _ => ("", "", "", false)
def tyJ10 : Nat → FieldType := fun k => match k with
  | _ => .int
abbrev wsJ100 : List Cond := u_ws RJ10 TJ10 0
theorem tyJ10_ok : ∀ k, k < 0 → parseFieldDescriptor (TJ10 k).2.2.1 = some (tyJ10 k) := by decide +kernel
def RJ7 : String := "java/util/Arrays"
def TJ7 : u_T := fun k => match k with
  | _ => ("", "", "", false)
def tyJ7 : Nat → FieldType := fun k => match k with
  | _ => .int
abbrev wsJ70 : List Cond := u_ws RJ7 TJ7 0
theorem tyJ7_ok : ∀ k, k < 0 → parseFieldDescriptor (TJ7 k).2.2.1 = some (tyJ7 k) := by decide +kernel
abbrev cJ7_fill_53178 : ByteArray := prog_26_method_103_code
def yJ7_fill_53178 : MethodName := ⟨RJ7, "fill", "([II)V"⟩
def wsX10_clear : List Cond := .code yX10_clear cX10_clear 1 none :: ([.fieldLink RX10 9 "RoomForms$Stretches" "size" "I"] ++ wsX100)
def wsX7_isFree : List Cond := .code yX7_isFree cX7_isFree 2 (some .boolean) :: ([.fieldLink RX7 36 "RoomForms$Room" "words" "I", .fieldLink RX7 9 "RoomForms$Room" "owners" "[I"] ++ wsX70)
def wsX10_add : List Cond := .code yX10_add cX10_add 3 none :: ([.fieldLink RX10 9 "RoomForms$Stretches" "size" "I", .fieldLink RX10 24 "RoomForms$Stretches" "places" "[I", .fieldLink RX10 28 "RoomForms$Stretches" "words" "[I"] ++ wsX100)
def wsX7_listRuns : List Cond := .code yX7_listRuns cX7_listRuns 3 (some (.object "RoomForms$Stretches")) :: ([.fieldLink RX7 32 "RoomForms$Room" "runs" "LRoomForms$Stretches;", .fieldLink RX7 36 "RoomForms$Room" "words" "I", .methodLink RX7 68 yX10_clear, .instanceMethod yX10_clear, .selects RX10 yX10_clear yX10_clear, .initialized RX10, .code yX10_clear cX10_clear 1 none, .fieldLink RX10 9 "RoomForms$Stretches" "size" "I", .methodLink RX7 71 yX7_isFree, .instanceMethod yX7_isFree, .selects RX7 yX7_isFree yX7_isFree, .initialized RX7, .code yX7_isFree cX7_isFree 2 (some .boolean), .fieldLink RX7 9 "RoomForms$Room" "owners" "[I", .methodLink RX7 75 yX10_add, .instanceMethod yX10_add, .selects RX10 yX10_add yX10_add, .code yX10_add cX10_add 3 none, .fieldLink RX10 24 "RoomForms$Stretches" "places" "[I", .fieldLink RX10 28 "RoomForms$Stretches" "words" "[I"] ++ wsX70 ++ wsX100)
def wsX10_nextFit : List Cond := .code yX10_nextFit cX10_nextFit 6 (some .int) :: ([.fieldLink RX10 9 "RoomForms$Stretches" "size" "I", .fieldLink RX10 24 "RoomForms$Stretches" "places" "[I", .methodLink RX10 18 Lib.Math.max.name, .static Lib.Math.max.name, .initialized "java/lang/Math", .code Lib.Math.max.name Lib.Math.max.code 2 (some .int), .fieldLink RX10 28 "RoomForms$Stretches" "words" "[I", .fieldLink RX10 15 "RoomForms$Stretches" "looked" "I"] ++ wsX100)
def wsX10_placeOf : List Cond := .code yX10_placeOf cX10_placeOf 2 (some .int) :: ([.fieldLink RX10 9 "RoomForms$Stretches" "size" "I", .fieldLink RX10 24 "RoomForms$Stretches" "places" "[I"] ++ wsX100)
def wsX10_bestFit : List Cond := .code yX10_bestFit cX10_bestFit 4 (some .int) :: ([.fieldLink RX10 9 "RoomForms$Stretches" "size" "I", .fieldLink RX10 28 "RoomForms$Stretches" "words" "[I", .fieldLink RX10 15 "RoomForms$Stretches" "looked" "I", .methodLink RX10 50 yX10_placeOf, .instanceMethod yX10_placeOf, .selects RX10 yX10_placeOf yX10_placeOf, .initialized RX10, .code yX10_placeOf cX10_placeOf 2 (some .int), .fieldLink RX10 24 "RoomForms$Stretches" "places" "[I"] ++ wsX100)
def wsX10_greatestFit : List Cond := .code yX10_greatestFit cX10_greatestFit 4 (some .int) :: ([.fieldLink RX10 9 "RoomForms$Stretches" "size" "I", .fieldLink RX10 28 "RoomForms$Stretches" "words" "[I", .fieldLink RX10 15 "RoomForms$Stretches" "looked" "I", .methodLink RX10 50 yX10_placeOf, .instanceMethod yX10_placeOf, .selects RX10 yX10_placeOf yX10_placeOf, .initialized RX10, .code yX10_placeOf cX10_placeOf 2 (some .int), .fieldLink RX10 24 "RoomForms$Stretches" "places" "[I"] ++ wsX100)
def wsX10_firstFit : List Cond := .code yX10_firstFit cX10_firstFit 3 (some .int) :: ([.fieldLink RX10 9 "RoomForms$Stretches" "size" "I", .fieldLink RX10 15 "RoomForms$Stretches" "looked" "I", .fieldLink RX10 28 "RoomForms$Stretches" "words" "[I", .fieldLink RX10 24 "RoomForms$Stretches" "places" "[I"] ++ wsX100)
def wsX10_find_r1 : List Cond := [Cond.fieldLink RX10 15 "RoomForms$Stretches" "looked" "I", Cond.methodLink RX10 37 yX10_nextFit, Cond.instanceMethod yX10_nextFit, Cond.selects RX10 yX10_nextFit yX10_nextFit, Cond.initialized RX10, Cond.code yX10_nextFit cX10_nextFit 6 (some .int), Cond.fieldLink RX10 9 "RoomForms$Stretches" "size" "I", Cond.fieldLink RX10 24 "RoomForms$Stretches" "places" "[I", Cond.methodLink RX10 18 Lib.Math.max.name, Cond.static Lib.Math.max.name, Cond.initialized "java/lang/Math", Cond.code Lib.Math.max.name Lib.Math.max.code 2 (some .int), Cond.fieldLink RX10 28 "RoomForms$Stretches" "words" "[I", Cond.methodLink RX10 40 yX10_bestFit, Cond.instanceMethod yX10_bestFit, Cond.selects RX10 yX10_bestFit yX10_bestFit, Cond.code yX10_bestFit cX10_bestFit 4 (some .int), Cond.methodLink RX10 50 yX10_placeOf, Cond.instanceMethod yX10_placeOf, Cond.selects RX10 yX10_placeOf yX10_placeOf, Cond.code yX10_placeOf cX10_placeOf 2 (some .int), Cond.methodLink RX10 44 yX10_greatestFit, Cond.instanceMethod yX10_greatestFit, Cond.selects RX10 yX10_greatestFit yX10_greatestFit]
def wsX10_find_r2 : List Cond := [Cond.code yX10_greatestFit cX10_greatestFit 4 (some .int), Cond.methodLink RX10 47 yX10_firstFit, Cond.instanceMethod yX10_firstFit, Cond.selects RX10 yX10_firstFit yX10_firstFit, Cond.code yX10_firstFit cX10_firstFit 3 (some .int)]
def wsX10_find : List Cond := .code yX10_find cX10_find 4 (some .int) :: ((wsX10_find_r1 ++ wsX10_find_r2) ++ wsX100)
def wsX10_looked : List Cond := .code yX10_looked cX10_looked 1 (some .int) :: ([.fieldLink RX10 15 "RoomForms$Stretches" "looked" "I"] ++ wsX100)
def wsX7_addLooked : List Cond := .code yX7_addLooked cX7_addLooked 2 none :: ([.fieldLink RX7 46 "RoomForms$Room" "looked" "I"] ++ wsX70)
def wsX7_words : List Cond := .code yX7_words cX7_words 1 (some .int) :: ([.fieldLink RX7 36 "RoomForms$Room" "words" "I"] ++ wsX70)
def wsX11_powerFrom : List Cond := .code yX11_powerFrom cX11_powerFrom 2 (some .int) :: ([])
def wsJ7_fill_53178 : List Cond := .code yJ7_fill_53178 cJ7_fill_53178 4 none :: ([])
def wsX10_init : List Cond := .code yX10_init cX10_init 3 none :: ([.methodLink RX10 3 objectInit, .instanceMethod objectInit, .code objectInit ⟨#[0xb1]⟩ 1 none, .fieldLink RX10 9 "RoomForms$Stretches" "size" "I", .fieldLink RX10 15 "RoomForms$Stretches" "looked" "I", .methodLink RX10 18 Lib.Math.max.name, .static Lib.Math.max.name, .initialized "java/lang/Math", .code Lib.Math.max.name Lib.Math.max.code 2 (some .int), .arrayClass .int, .fieldLink RX10 24 "RoomForms$Stretches" "places" "[I", .fieldLink RX10 28 "RoomForms$Stretches" "words" "[I"] ++ wsX100)
def wsX4_listOf : List Cond := .code yX4_listOf cX4_listOf 4 (some .int) :: ([])
def wsX10_size : List Cond := .code yX10_size cX10_size 1 (some .int) :: ([.fieldLink RX10 9 "RoomForms$Stretches" "size" "I"] ++ wsX100)
def wsX10_wordsOf : List Cond := .code yX10_wordsOf cX10_wordsOf 2 (some .int) :: ([.fieldLink RX10 9 "RoomForms$Stretches" "size" "I", .fieldLink RX10 28 "RoomForms$Stretches" "words" "[I"] ++ wsX100)
def wsX10_remove : List Cond := .code yX10_remove cX10_remove 2 none :: ([.fieldLink RX10 9 "RoomForms$Stretches" "size" "I", .fieldLink RX10 24 "RoomForms$Stretches" "places" "[I", .methodLink RX10 31 arraycopyName, .native arraycopyName, .static arraycopyName, .initialized "java/lang/System", .fieldLink RX10 28 "RoomForms$Stretches" "words" "[I"] ++ wsX100)
def wsX10_endOf : List Cond := .code yX10_endOf cX10_endOf 2 (some .int) :: ([.fieldLink RX10 9 "RoomForms$Stretches" "size" "I", .fieldLink RX10 24 "RoomForms$Stretches" "places" "[I", .fieldLink RX10 28 "RoomForms$Stretches" "words" "[I"] ++ wsX100)
def wsX7_mark : List Cond := .code yX7_mark cX7_mark 6 none :: ([.fieldLink RX7 36 "RoomForms$Room" "words" "I", .methodLink RX7 55 Lib.Math.min.name, .static Lib.Math.min.name, .initialized "java/lang/Math", .code Lib.Math.min.name Lib.Math.min.code 2 (some .int), .methodLink RX7 49 Lib.Math.max.name, .static Lib.Math.max.name, .code Lib.Math.max.name Lib.Math.max.code 2 (some .int), .fieldLink RX7 9 "RoomForms$Room" "owners" "[I"] ++ wsX70)
def wsX7_markFree : List Cond := .code yX7_markFree cX7_markFree 3 none :: ([.methodLink RX7 64 yX7_mark, .instanceMethod yX7_mark, .selects RX7 yX7_mark yX7_mark, .initialized RX7, .code yX7_mark cX7_mark 6 none, .fieldLink RX7 36 "RoomForms$Room" "words" "I", .methodLink RX7 55 Lib.Math.min.name, .static Lib.Math.min.name, .initialized "java/lang/Math", .code Lib.Math.min.name Lib.Math.min.code 2 (some .int), .methodLink RX7 49 Lib.Math.max.name, .static Lib.Math.max.name, .code Lib.Math.max.name Lib.Math.max.code 2 (some .int), .fieldLink RX7 9 "RoomForms$Room" "owners" "[I"] ++ wsX70)
def wsX7_markQuick : List Cond := .code yX7_markQuick cX7_markQuick 3 none :: ([.methodLink RX7 64 yX7_mark, .instanceMethod yX7_mark, .selects RX7 yX7_mark yX7_mark, .initialized RX7, .code yX7_mark cX7_mark 6 none, .fieldLink RX7 36 "RoomForms$Room" "words" "I", .methodLink RX7 55 Lib.Math.min.name, .static Lib.Math.min.name, .initialized "java/lang/Math", .code Lib.Math.min.name Lib.Math.min.code 2 (some .int), .methodLink RX7 49 Lib.Math.max.name, .static Lib.Math.max.name, .code Lib.Math.max.name Lib.Math.max.code 2 (some .int), .fieldLink RX7 9 "RoomForms$Room" "owners" "[I"] ++ wsX70)
def wsX7_init_r1 : List Cond := [Cond.methodLink RX7 3 objectInit, Cond.instanceMethod objectInit, Cond.code objectInit ⟨#[0xb1]⟩ 1 none, Cond.arrayClass .int, Cond.fieldLink RX7 9 "RoomForms$Room" "owners" "[I", Cond.fieldLink RX7 15 "RoomForms$Room" "numbers" "[I", Cond.fieldLink RX7 18 "RoomForms$Room" "places" "[I", Cond.fieldLink RX7 21 "RoomForms$Room" "spans" "[I", Cond.fieldLink RX7 24 "RoomForms$Room" "asked" "[I", Cond.classLink RX7 27 RX10, Cond.instantiable RX10 4, Cond.initialized RX10, Cond.fieldLink RX7 32 "RoomForms$Room" "runs" "LRoomForms$Stretches;", Cond.fieldLink RX7 36 "RoomForms$Room" "words" "I", Cond.fieldLink RX7 40 "RoomForms$Room" "blocks" "I", Cond.fieldLink RX7 43 "RoomForms$Room" "given" "I", Cond.fieldLink RX7 46 "RoomForms$Room" "looked" "I", Cond.methodLink RX7 29 yX10_init, Cond.instanceMethod yX10_init, Cond.code yX10_init cX10_init 3 none, Cond.methodLink RX10 3 objectInit, Cond.fieldLink RX10 9 "RoomForms$Stretches" "size" "I", Cond.fieldLink RX10 15 "RoomForms$Stretches" "looked" "I", Cond.methodLink RX10 18 Lib.Math.max.name]
def wsX7_init_r2 : List Cond := [Cond.static Lib.Math.max.name, Cond.initialized "java/lang/Math", Cond.code Lib.Math.max.name Lib.Math.max.code 2 (some .int), Cond.fieldLink RX10 24 "RoomForms$Stretches" "places" "[I", Cond.fieldLink RX10 28 "RoomForms$Stretches" "words" "[I"]
def wsX7_init : List Cond := .code yX7_init cX7_init 1 none :: ((wsX7_init_r1 ++ wsX7_init_r2) ++ wsX70 ++ wsX100)
def wsX7_empty : List Cond := .code yX7_empty cX7_empty 2 none :: ([.methodLink RX7 49 Lib.Math.max.name, .static Lib.Math.max.name, .initialized "java/lang/Math", .code Lib.Math.max.name Lib.Math.max.code 2 (some .int), .methodLink RX7 55 Lib.Math.min.name, .static Lib.Math.min.name, .code Lib.Math.min.name Lib.Math.min.code 2 (some .int), .fieldLink RX7 36 "RoomForms$Room" "words" "I", .fieldLink RX7 40 "RoomForms$Room" "blocks" "I", .fieldLink RX7 43 "RoomForms$Room" "given" "I", .fieldLink RX7 46 "RoomForms$Room" "looked" "I", .fieldLink RX7 9 "RoomForms$Room" "owners" "[I", .methodLink RX7 58 yJ7_fill_53178, .static yJ7_fill_53178, .initialized RJ7, .code yJ7_fill_53178 cJ7_fill_53178 4 none] ++ wsX70)
def wsX7_blocks : List Cond := .code yX7_blocks cX7_blocks 1 (some .int) :: ([.fieldLink RX7 40 "RoomForms$Room" "blocks" "I"] ++ wsX70)
def wsX7_given : List Cond := .code yX7_given cX7_given 1 (some .int) :: ([.fieldLink RX7 43 "RoomForms$Room" "given" "I"] ++ wsX70)
def wsX7_looked : List Cond := .code yX7_looked cX7_looked 1 (some .int) :: ([.fieldLink RX7 46 "RoomForms$Room" "looked" "I"] ++ wsX70)
def wsX7_settle : List Cond := .code yX7_settle cX7_settle 5 (some .int) :: ([.fieldLink RX7 40 "RoomForms$Room" "blocks" "I", .fieldLink RX7 43 "RoomForms$Room" "given" "I", .fieldLink RX7 15 "RoomForms$Room" "numbers" "[I", .fieldLink RX7 18 "RoomForms$Room" "places" "[I", .fieldLink RX7 21 "RoomForms$Room" "spans" "[I", .fieldLink RX7 24 "RoomForms$Room" "asked" "[I", .methodLink RX7 64 yX7_mark, .instanceMethod yX7_mark, .selects RX7 yX7_mark yX7_mark, .initialized RX7, .code yX7_mark cX7_mark 6 none, .fieldLink RX7 36 "RoomForms$Room" "words" "I", .methodLink RX7 55 Lib.Math.min.name, .static Lib.Math.min.name, .initialized "java/lang/Math", .code Lib.Math.min.name Lib.Math.min.code 2 (some .int), .methodLink RX7 49 Lib.Math.max.name, .static Lib.Math.max.name, .code Lib.Math.max.name Lib.Math.max.code 2 (some .int), .fieldLink RX7 9 "RoomForms$Room" "owners" "[I"] ++ wsX70)
def wsX7_remove : List Cond := .code yX7_remove cX7_remove 2 none :: ([.fieldLink RX7 40 "RoomForms$Room" "blocks" "I", .fieldLink RX7 18 "RoomForms$Room" "places" "[I", .fieldLink RX7 21 "RoomForms$Room" "spans" "[I", .fieldLink RX7 15 "RoomForms$Room" "numbers" "[I", .fieldLink RX7 24 "RoomForms$Room" "asked" "[I", .methodLink RX7 64 yX7_mark, .instanceMethod yX7_mark, .selects RX7 yX7_mark yX7_mark, .initialized RX7, .code yX7_mark cX7_mark 6 none, .fieldLink RX7 36 "RoomForms$Room" "words" "I", .methodLink RX7 55 Lib.Math.min.name, .static Lib.Math.min.name, .initialized "java/lang/Math", .code Lib.Math.min.name Lib.Math.min.code 2 (some .int), .methodLink RX7 49 Lib.Math.max.name, .static Lib.Math.max.name, .code Lib.Math.max.name Lib.Math.max.code 2 (some .int), .fieldLink RX7 9 "RoomForms$Room" "owners" "[I"] ++ wsX70)
def wsX7_slotOf : List Cond := .code yX7_slotOf cX7_slotOf 3 (some .int) :: ([.fieldLink RX7 40 "RoomForms$Room" "blocks" "I", .fieldLink RX7 15 "RoomForms$Room" "numbers" "[I"] ++ wsX70)
def wsX7_placeOf : List Cond := .code yX7_placeOf cX7_placeOf 2 (some .int) :: ([.fieldLink RX7 40 "RoomForms$Room" "blocks" "I", .fieldLink RX7 18 "RoomForms$Room" "places" "[I"] ++ wsX70)
def wsX7_spanOf : List Cond := .code yX7_spanOf cX7_spanOf 2 (some .int) :: ([.fieldLink RX7 40 "RoomForms$Room" "blocks" "I", .fieldLink RX7 21 "RoomForms$Room" "spans" "[I"] ++ wsX70)
def wsX7_askedOf : List Cond := .code yX7_askedOf cX7_askedOf 2 (some .int) :: ([.fieldLink RX7 40 "RoomForms$Room" "blocks" "I", .fieldLink RX7 24 "RoomForms$Room" "asked" "[I"] ++ wsX70)
def wsX7_blockAt : List Cond := .code yX7_blockAt cX7_blockAt 2 (some .int) :: ([.fieldLink RX7 36 "RoomForms$Room" "words" "I", .fieldLink RX7 9 "RoomForms$Room" "owners" "[I", .methodLink RX7 49 Lib.Math.max.name, .static Lib.Math.max.name, .initialized "java/lang/Math", .code Lib.Math.max.name Lib.Math.max.code 2 (some .int)] ++ wsX70)
def wsX7_askedTogether : List Cond := .code yX7_askedTogether cX7_askedTogether 3 (some .int) :: ([.fieldLink RX7 40 "RoomForms$Room" "blocks" "I", .fieldLink RX7 24 "RoomForms$Room" "asked" "[I"] ++ wsX70)
def wsX7_spansTogether : List Cond := .code yX7_spansTogether cX7_spansTogether 3 (some .int) :: ([.fieldLink RX7 40 "RoomForms$Room" "blocks" "I", .fieldLink RX7 21 "RoomForms$Room" "spans" "[I"] ++ wsX70)
def wsJ6_bitCount_0f7a4 : List Cond := .code yJ6_bitCount_0f7a4 cJ6_bitCount_0f7a4 1 (some .int) :: ([.constant RJ6 265 (1431655765), .constant RJ6 266 (858993459), .constant RJ6 267 (252645135)])
def wsX10_mostWords : List Cond := .code yX10_mostWords cX10_mostWords 3 (some .int) :: ([.fieldLink RX10 9 "RoomForms$Stretches" "size" "I", .fieldLink RX10 28 "RoomForms$Stretches" "words" "[I", .methodLink RX10 18 Lib.Math.max.name, .static Lib.Math.max.name, .initialized "java/lang/Math", .code Lib.Math.max.name Lib.Math.max.code 2 (some .int)] ++ wsX100)
def wsJ9_max_7cf53 : List Cond := .code yJ9_max_7cf53 cJ9_max_7cf53 2 (some .int) :: ([])
def wsJ9_min_7cf53 : List Cond := .code yJ9_min_7cf53 cJ9_min_7cf53 2 (some .int) :: ([])
theorem dX4_listOf_0 : decode cX4_listOf 0 = .ok (.iconst 0, 1) := by decide +kernel
theorem dX4_listOf_1 : decode cX4_listOf 1 = .ok (.istore_n 1, 1) := by decide +kernel
theorem dX4_listOf_2 : decode cX4_listOf 2 = .ok (.iconst 1, 1) := by decide +kernel
theorem dX4_listOf_3 : decode cX4_listOf 3 = .ok (.istore_n 2, 1) := by decide +kernel
theorem dX4_listOf_4 : decode cX4_listOf 4 = .ok (.iconst 0, 1) := by decide +kernel
theorem dX4_listOf_5 : decode cX4_listOf 5 = .ok (.istore_n 3, 1) := by decide +kernel
theorem dX4_listOf_6 : decode cX4_listOf 6 = .ok (.iload_n 3, 1) := by decide +kernel
theorem dX4_listOf_7 : decode cX4_listOf 7 = .ok (.bipush 10, 2) := by decide +kernel
theorem dX4_listOf_9 : decode cX4_listOf 9 = .ok (.if_icmp .ge 23, 3) := by decide +kernel
theorem dX4_listOf_12 : decode cX4_listOf 12 = .ok (.iload_n 2, 1) := by decide +kernel
theorem dX4_listOf_13 : decode cX4_listOf 13 = .ok (.iload_n 2, 1) := by decide +kernel
theorem dX4_listOf_14 : decode cX4_listOf 14 = .ok (.iadd, 1) := by decide +kernel
theorem dX4_listOf_15 : decode cX4_listOf 15 = .ok (.iload_n 0, 1) := by decide +kernel
theorem dX4_listOf_16 : decode cX4_listOf 16 = .ok (.if_icmp .gt 16, 3) := by decide +kernel
theorem dX4_listOf_19 : decode cX4_listOf 19 = .ok (.iload_n 2, 1) := by decide +kernel
theorem dX4_listOf_20 : decode cX4_listOf 20 = .ok (.iload_n 2, 1) := by decide +kernel
theorem dX4_listOf_21 : decode cX4_listOf 21 = .ok (.iadd, 1) := by decide +kernel
theorem dX4_listOf_22 : decode cX4_listOf 22 = .ok (.istore_n 2, 1) := by decide +kernel
theorem dX4_listOf_23 : decode cX4_listOf 23 = .ok (.iinc 1 1, 3) := by decide +kernel
theorem dX4_listOf_26 : decode cX4_listOf 26 = .ok (.iinc 3 1, 3) := by decide +kernel
theorem dX4_listOf_29 : decode cX4_listOf 29 = .ok (.goto (-23), 3) := by decide +kernel
theorem dX4_listOf_32 : decode cX4_listOf 32 = .ok (.iconst 4, 1) := by decide +kernel
theorem dX4_listOf_33 : decode cX4_listOf 33 = .ok (.iload_n 1, 1) := by decide +kernel
theorem dX4_listOf_34 : decode cX4_listOf 34 = .ok (.imul, 1) := by decide +kernel
theorem dX4_listOf_35 : decode cX4_listOf 35 = .ok (.iconst 4, 1) := by decide +kernel
theorem dX4_listOf_36 : decode cX4_listOf 36 = .ok (.iload_n 0, 1) := by decide +kernel
theorem dX4_listOf_37 : decode cX4_listOf 37 = .ok (.iload_n 2, 1) := by decide +kernel
theorem dX4_listOf_38 : decode cX4_listOf 38 = .ok (.isub, 1) := by decide +kernel
theorem dX4_listOf_39 : decode cX4_listOf 39 = .ok (.imul, 1) := by decide +kernel
theorem dX4_listOf_40 : decode cX4_listOf 40 = .ok (.iload_n 2, 1) := by decide +kernel
theorem dX4_listOf_41 : decode cX4_listOf 41 = .ok (.idiv, 1) := by decide +kernel
theorem dX4_listOf_42 : decode cX4_listOf 42 = .ok (.iadd, 1) := by decide +kernel
theorem dX4_listOf_43 : decode cX4_listOf 43 = .ok (.ireturn, 1) := by decide +kernel
set_option maxRecDepth 20000 in
theorem ggX7_init_X10_init : GoodIn wsX7_init wsX10_init := goodIn_r _ [20, 21, 2, 3, 22, 23, 24, 25, 26, 27, 4, 28, 29, 40, 41, 42, 43] (by decide +kernel) (by decide +kernel)
set_option maxRecDepth 20000 in
theorem gX7_init_X10_init : GoodIn wsX7_init (wsX10_init) := ggX7_init_X10_init
theorem dX7_init_0 : decode cX7_init 0 = .ok (.aload_n 0, 1) := by decide +kernel
theorem dX7_init_1 : decode cX7_init 1 = .ok (.invokespecial 3, 3) := by decide +kernel
theorem dX7_init_4 : decode cX7_init 4 = .ok (.aload_n 0, 1) := by decide +kernel
theorem dX7_init_5 : decode cX7_init 5 = .ok (.sipush 1024, 3) := by decide +kernel
theorem dX7_init_8 : decode cX7_init 8 = .ok (.newarray .int, 2) := by decide +kernel
theorem dX7_init_10 : decode cX7_init 10 = .ok (.putfield 9, 3) := by decide +kernel
theorem dX7_init_13 : decode cX7_init 13 = .ok (.aload_n 0, 1) := by decide +kernel
theorem dX7_init_14 : decode cX7_init 14 = .ok (.sipush 200, 3) := by decide +kernel
theorem dX7_init_17 : decode cX7_init 17 = .ok (.newarray .int, 2) := by decide +kernel
theorem dX7_init_19 : decode cX7_init 19 = .ok (.putfield 15, 3) := by decide +kernel
theorem dX7_init_22 : decode cX7_init 22 = .ok (.aload_n 0, 1) := by decide +kernel
theorem dX7_init_23 : decode cX7_init 23 = .ok (.sipush 200, 3) := by decide +kernel
theorem dX7_init_26 : decode cX7_init 26 = .ok (.newarray .int, 2) := by decide +kernel
theorem dX7_init_28 : decode cX7_init 28 = .ok (.putfield 18, 3) := by decide +kernel
theorem dX7_init_31 : decode cX7_init 31 = .ok (.aload_n 0, 1) := by decide +kernel
theorem dX7_init_32 : decode cX7_init 32 = .ok (.sipush 200, 3) := by decide +kernel
theorem dX7_init_35 : decode cX7_init 35 = .ok (.newarray .int, 2) := by decide +kernel
theorem dX7_init_37 : decode cX7_init 37 = .ok (.putfield 21, 3) := by decide +kernel
theorem dX7_init_40 : decode cX7_init 40 = .ok (.aload_n 0, 1) := by decide +kernel
theorem dX7_init_41 : decode cX7_init 41 = .ok (.sipush 200, 3) := by decide +kernel
theorem dX7_init_44 : decode cX7_init 44 = .ok (.newarray .int, 2) := by decide +kernel
theorem dX7_init_46 : decode cX7_init 46 = .ok (.putfield 24, 3) := by decide +kernel
theorem dX7_init_49 : decode cX7_init 49 = .ok (.aload_n 0, 1) := by decide +kernel
theorem dX7_init_50 : decode cX7_init 50 = .ok (.new 27, 3) := by decide +kernel
theorem dX7_init_53 : decode cX7_init 53 = .ok (.dup, 1) := by decide +kernel
theorem dX7_init_54 : decode cX7_init 54 = .ok (.sipush 512, 3) := by decide +kernel
theorem dX7_init_57 : decode cX7_init 57 = .ok (.invokespecial 29, 3) := by decide +kernel
theorem dX7_init_60 : decode cX7_init 60 = .ok (.putfield 32, 3) := by decide +kernel
theorem dX7_init_63 : decode cX7_init 63 = .ok (.aload_n 0, 1) := by decide +kernel
theorem dX7_init_64 : decode cX7_init 64 = .ok (.iconst 0, 1) := by decide +kernel
theorem dX7_init_65 : decode cX7_init 65 = .ok (.putfield 36, 3) := by decide +kernel
theorem dX7_init_68 : decode cX7_init 68 = .ok (.aload_n 0, 1) := by decide +kernel
theorem dX7_init_69 : decode cX7_init 69 = .ok (.iconst 0, 1) := by decide +kernel
theorem dX7_init_70 : decode cX7_init 70 = .ok (.putfield 40, 3) := by decide +kernel
theorem dX7_init_73 : decode cX7_init 73 = .ok (.aload_n 0, 1) := by decide +kernel
theorem dX7_init_74 : decode cX7_init 74 = .ok (.iconst 0, 1) := by decide +kernel
theorem dX7_init_75 : decode cX7_init 75 = .ok (.putfield 43, 3) := by decide +kernel
theorem dX7_init_78 : decode cX7_init 78 = .ok (.aload_n 0, 1) := by decide +kernel
theorem dX7_init_79 : decode cX7_init 79 = .ok (.iconst 0, 1) := by decide +kernel
theorem dX7_init_80 : decode cX7_init 80 = .ok (.putfield 46, 3) := by decide +kernel
theorem dX7_init_83 : decode cX7_init 83 = .ok (.return_, 1) := by decide +kernel
set_option maxRecDepth 20000 in
theorem ggX7_empty_J7_fill_53178 : GoodIn wsX7_empty wsJ7_fill_53178 := goodIn_r _ [16] (by decide +kernel) (by decide +kernel)
set_option maxRecDepth 20000 in
theorem gX7_empty_J7_fill_53178 : GoodIn wsX7_empty (va_wsS RX7 58 yJ7_fill_53178 wsJ7_fill_53178) := goodIn_app (goodIn_of _ (by decide +kernel)) ggX7_empty_J7_fill_53178
theorem dX7_empty_0 : decode cX7_empty 0 = .ok (.aload_n 0, 1) := by decide +kernel
theorem dX7_empty_1 : decode cX7_empty 1 = .ok (.iload_n 1, 1) := by decide +kernel
theorem dX7_empty_2 : decode cX7_empty 2 = .ok (.iconst 0, 1) := by decide +kernel
theorem dX7_empty_3 : decode cX7_empty 3 = .ok (.invokestatic 49, 3) := by decide +kernel
theorem dX7_empty_6 : decode cX7_empty 6 = .ok (.sipush 1024, 3) := by decide +kernel
theorem dX7_empty_9 : decode cX7_empty 9 = .ok (.invokestatic 55, 3) := by decide +kernel
theorem dX7_empty_12 : decode cX7_empty 12 = .ok (.putfield 36, 3) := by decide +kernel
theorem dX7_empty_15 : decode cX7_empty 15 = .ok (.aload_n 0, 1) := by decide +kernel
theorem dX7_empty_16 : decode cX7_empty 16 = .ok (.iconst 0, 1) := by decide +kernel
theorem dX7_empty_17 : decode cX7_empty 17 = .ok (.putfield 40, 3) := by decide +kernel
theorem dX7_empty_20 : decode cX7_empty 20 = .ok (.aload_n 0, 1) := by decide +kernel
theorem dX7_empty_21 : decode cX7_empty 21 = .ok (.iconst 0, 1) := by decide +kernel
theorem dX7_empty_22 : decode cX7_empty 22 = .ok (.putfield 43, 3) := by decide +kernel
theorem dX7_empty_25 : decode cX7_empty 25 = .ok (.aload_n 0, 1) := by decide +kernel
theorem dX7_empty_26 : decode cX7_empty 26 = .ok (.iconst 0, 1) := by decide +kernel
theorem dX7_empty_27 : decode cX7_empty 27 = .ok (.putfield 46, 3) := by decide +kernel
theorem dX7_empty_30 : decode cX7_empty 30 = .ok (.aload_n 0, 1) := by decide +kernel
theorem dX7_empty_31 : decode cX7_empty 31 = .ok (.getfield 9, 3) := by decide +kernel
theorem dX7_empty_34 : decode cX7_empty 34 = .ok (.iconst (-1), 1) := by decide +kernel
theorem dX7_empty_35 : decode cX7_empty 35 = .ok (.invokestatic 58, 3) := by decide +kernel
theorem dX7_empty_38 : decode cX7_empty 38 = .ok (.return_, 1) := by decide +kernel
theorem dX7_words_0 : decode cX7_words 0 = .ok (.aload_n 0, 1) := by decide +kernel
theorem dX7_words_1 : decode cX7_words 1 = .ok (.getfield 36, 3) := by decide +kernel
theorem dX7_words_4 : decode cX7_words 4 = .ok (.ireturn, 1) := by decide +kernel
theorem dX7_blocks_0 : decode cX7_blocks 0 = .ok (.aload_n 0, 1) := by decide +kernel
theorem dX7_blocks_1 : decode cX7_blocks 1 = .ok (.getfield 40, 3) := by decide +kernel
theorem dX7_blocks_4 : decode cX7_blocks 4 = .ok (.ireturn, 1) := by decide +kernel
theorem dX7_given_0 : decode cX7_given 0 = .ok (.aload_n 0, 1) := by decide +kernel
theorem dX7_given_1 : decode cX7_given 1 = .ok (.getfield 43, 3) := by decide +kernel
theorem dX7_given_4 : decode cX7_given 4 = .ok (.ireturn, 1) := by decide +kernel
theorem dX7_looked_0 : decode cX7_looked 0 = .ok (.aload_n 0, 1) := by decide +kernel
theorem dX7_looked_1 : decode cX7_looked 1 = .ok (.getfield 46, 3) := by decide +kernel
theorem dX7_looked_4 : decode cX7_looked 4 = .ok (.ireturn, 1) := by decide +kernel
theorem dX7_addLooked_0 : decode cX7_addLooked 0 = .ok (.aload_n 0, 1) := by decide +kernel
theorem dX7_addLooked_1 : decode cX7_addLooked 1 = .ok (.dup, 1) := by decide +kernel
theorem dX7_addLooked_2 : decode cX7_addLooked 2 = .ok (.getfield 46, 3) := by decide +kernel
theorem dX7_addLooked_5 : decode cX7_addLooked 5 = .ok (.iload_n 1, 1) := by decide +kernel
theorem dX7_addLooked_6 : decode cX7_addLooked 6 = .ok (.iadd, 1) := by decide +kernel
theorem dX7_addLooked_7 : decode cX7_addLooked 7 = .ok (.putfield 46, 3) := by decide +kernel
theorem dX7_addLooked_10 : decode cX7_addLooked 10 = .ok (.return_, 1) := by decide +kernel
set_option maxRecDepth 20000 in
theorem ggX7_settle_X7_mark : GoodIn wsX7_settle wsX7_mark := goodIn_r _ [11, 12, 13, 14, 15, 16, 17, 18, 19, 20, 21, 22, 23, 24, 25, 26, 27, 28, 29, 30] (by decide +kernel) (by decide +kernel)
set_option maxRecDepth 20000 in
theorem gX7_settle_X7_mark : GoodIn wsX7_settle (wsV RX7 64 RX7 yX7_mark wsX7_mark) := goodIn_app (goodIn_of _ (by decide +kernel)) ggX7_settle_X7_mark
theorem dX7_settle_0 : decode cX7_settle 0 = .ok (.aload_n 0, 1) := by decide +kernel
theorem dX7_settle_1 : decode cX7_settle 1 = .ok (.getfield 40, 3) := by decide +kernel
theorem dX7_settle_4 : decode cX7_settle 4 = .ok (.sipush 200, 3) := by decide +kernel
theorem dX7_settle_7 : decode cX7_settle 7 = .ok (.if_icmp .lt 5, 3) := by decide +kernel
theorem dX7_settle_10 : decode cX7_settle 10 = .ok (.iconst (-1), 1) := by decide +kernel
theorem dX7_settle_11 : decode cX7_settle 11 = .ok (.ireturn, 1) := by decide +kernel
theorem dX7_settle_12 : decode cX7_settle 12 = .ok (.aload_n 0, 1) := by decide +kernel
theorem dX7_settle_13 : decode cX7_settle 13 = .ok (.getfield 43, 3) := by decide +kernel
theorem dX7_settle_16 : decode cX7_settle 16 = .ok (.istore 4, 2) := by decide +kernel
theorem dX7_settle_18 : decode cX7_settle 18 = .ok (.aload_n 0, 1) := by decide +kernel
theorem dX7_settle_19 : decode cX7_settle 19 = .ok (.getfield 15, 3) := by decide +kernel
theorem dX7_settle_22 : decode cX7_settle 22 = .ok (.aload_n 0, 1) := by decide +kernel
theorem dX7_settle_23 : decode cX7_settle 23 = .ok (.getfield 40, 3) := by decide +kernel
theorem dX7_settle_26 : decode cX7_settle 26 = .ok (.iload 4, 2) := by decide +kernel
theorem dX7_settle_28 : decode cX7_settle 28 = .ok (.iastore, 1) := by decide +kernel
theorem dX7_settle_29 : decode cX7_settle 29 = .ok (.aload_n 0, 1) := by decide +kernel
theorem dX7_settle_30 : decode cX7_settle 30 = .ok (.getfield 18, 3) := by decide +kernel
theorem dX7_settle_33 : decode cX7_settle 33 = .ok (.aload_n 0, 1) := by decide +kernel
theorem dX7_settle_34 : decode cX7_settle 34 = .ok (.getfield 40, 3) := by decide +kernel
theorem dX7_settle_37 : decode cX7_settle 37 = .ok (.iload_n 1, 1) := by decide +kernel
theorem dX7_settle_38 : decode cX7_settle 38 = .ok (.iastore, 1) := by decide +kernel
theorem dX7_settle_39 : decode cX7_settle 39 = .ok (.aload_n 0, 1) := by decide +kernel
theorem dX7_settle_40 : decode cX7_settle 40 = .ok (.getfield 21, 3) := by decide +kernel
theorem dX7_settle_43 : decode cX7_settle 43 = .ok (.aload_n 0, 1) := by decide +kernel
theorem dX7_settle_44 : decode cX7_settle 44 = .ok (.getfield 40, 3) := by decide +kernel
theorem dX7_settle_47 : decode cX7_settle 47 = .ok (.iload_n 2, 1) := by decide +kernel
theorem dX7_settle_48 : decode cX7_settle 48 = .ok (.iastore, 1) := by decide +kernel
theorem dX7_settle_49 : decode cX7_settle 49 = .ok (.aload_n 0, 1) := by decide +kernel
theorem dX7_settle_50 : decode cX7_settle 50 = .ok (.getfield 24, 3) := by decide +kernel
theorem dX7_settle_53 : decode cX7_settle 53 = .ok (.aload_n 0, 1) := by decide +kernel
theorem dX7_settle_54 : decode cX7_settle 54 = .ok (.getfield 40, 3) := by decide +kernel
theorem dX7_settle_57 : decode cX7_settle 57 = .ok (.iload_n 3, 1) := by decide +kernel
theorem dX7_settle_58 : decode cX7_settle 58 = .ok (.iastore, 1) := by decide +kernel
theorem dX7_settle_59 : decode cX7_settle 59 = .ok (.aload_n 0, 1) := by decide +kernel
theorem dX7_settle_60 : decode cX7_settle 60 = .ok (.dup, 1) := by decide +kernel
theorem dX7_settle_61 : decode cX7_settle 61 = .ok (.getfield 40, 3) := by decide +kernel
theorem dX7_settle_64 : decode cX7_settle 64 = .ok (.iconst 1, 1) := by decide +kernel
theorem dX7_settle_65 : decode cX7_settle 65 = .ok (.iadd, 1) := by decide +kernel
theorem dX7_settle_66 : decode cX7_settle 66 = .ok (.putfield 40, 3) := by decide +kernel
theorem dX7_settle_69 : decode cX7_settle 69 = .ok (.aload_n 0, 1) := by decide +kernel
theorem dX7_settle_70 : decode cX7_settle 70 = .ok (.dup, 1) := by decide +kernel
theorem dX7_settle_71 : decode cX7_settle 71 = .ok (.getfield 43, 3) := by decide +kernel
theorem dX7_settle_74 : decode cX7_settle 74 = .ok (.iconst 1, 1) := by decide +kernel
theorem dX7_settle_75 : decode cX7_settle 75 = .ok (.iadd, 1) := by decide +kernel
theorem dX7_settle_76 : decode cX7_settle 76 = .ok (.putfield 43, 3) := by decide +kernel
theorem dX7_settle_79 : decode cX7_settle 79 = .ok (.aload_n 0, 1) := by decide +kernel
theorem dX7_settle_80 : decode cX7_settle 80 = .ok (.iload_n 1, 1) := by decide +kernel
theorem dX7_settle_81 : decode cX7_settle 81 = .ok (.iload_n 2, 1) := by decide +kernel
theorem dX7_settle_82 : decode cX7_settle 82 = .ok (.iload 4, 2) := by decide +kernel
theorem dX7_settle_84 : decode cX7_settle 84 = .ok (.invokevirtual 64, 3) := by decide +kernel
theorem dX7_settle_87 : decode cX7_settle 87 = .ok (.iload 4, 2) := by decide +kernel
theorem dX7_settle_89 : decode cX7_settle 89 = .ok (.ireturn, 1) := by decide +kernel
set_option maxRecDepth 20000 in
theorem ggX7_remove_X7_mark : GoodIn wsX7_remove wsX7_mark := goodIn_r _ [10, 11, 12, 13, 14, 15, 16, 17, 18, 19, 20, 21, 22, 23, 24, 25, 26, 27, 28, 29] (by decide +kernel) (by decide +kernel)
set_option maxRecDepth 20000 in
theorem gX7_remove_X7_mark : GoodIn wsX7_remove (wsV RX7 64 RX7 yX7_mark wsX7_mark) := goodIn_app (goodIn_of _ (by decide +kernel)) ggX7_remove_X7_mark
theorem dX7_remove_0 : decode cX7_remove 0 = .ok (.iload_n 1, 1) := by decide +kernel
theorem dX7_remove_1 : decode cX7_remove 1 = .ok (.ifCond .lt 11, 3) := by decide +kernel
theorem dX7_remove_4 : decode cX7_remove 4 = .ok (.iload_n 1, 1) := by decide +kernel
theorem dX7_remove_5 : decode cX7_remove 5 = .ok (.aload_n 0, 1) := by decide +kernel
theorem dX7_remove_6 : decode cX7_remove 6 = .ok (.getfield 40, 3) := by decide +kernel
theorem dX7_remove_9 : decode cX7_remove 9 = .ok (.if_icmp .lt 4, 3) := by decide +kernel
theorem dX7_remove_12 : decode cX7_remove 12 = .ok (.return_, 1) := by decide +kernel
theorem dX7_remove_13 : decode cX7_remove 13 = .ok (.aload_n 0, 1) := by decide +kernel
theorem dX7_remove_14 : decode cX7_remove 14 = .ok (.aload_n 0, 1) := by decide +kernel
theorem dX7_remove_15 : decode cX7_remove 15 = .ok (.getfield 18, 3) := by decide +kernel
theorem dX7_remove_18 : decode cX7_remove 18 = .ok (.iload_n 1, 1) := by decide +kernel
theorem dX7_remove_19 : decode cX7_remove 19 = .ok (.iaload, 1) := by decide +kernel
theorem dX7_remove_20 : decode cX7_remove 20 = .ok (.aload_n 0, 1) := by decide +kernel
theorem dX7_remove_21 : decode cX7_remove 21 = .ok (.getfield 21, 3) := by decide +kernel
theorem dX7_remove_24 : decode cX7_remove 24 = .ok (.iload_n 1, 1) := by decide +kernel
theorem dX7_remove_25 : decode cX7_remove 25 = .ok (.iaload, 1) := by decide +kernel
theorem dX7_remove_26 : decode cX7_remove 26 = .ok (.iconst (-1), 1) := by decide +kernel
theorem dX7_remove_27 : decode cX7_remove 27 = .ok (.invokevirtual 64, 3) := by decide +kernel
theorem dX7_remove_30 : decode cX7_remove 30 = .ok (.aload_n 0, 1) := by decide +kernel
theorem dX7_remove_31 : decode cX7_remove 31 = .ok (.dup, 1) := by decide +kernel
theorem dX7_remove_32 : decode cX7_remove 32 = .ok (.getfield 40, 3) := by decide +kernel
theorem dX7_remove_35 : decode cX7_remove 35 = .ok (.iconst 1, 1) := by decide +kernel
theorem dX7_remove_36 : decode cX7_remove 36 = .ok (.isub, 1) := by decide +kernel
theorem dX7_remove_37 : decode cX7_remove 37 = .ok (.putfield 40, 3) := by decide +kernel
theorem dX7_remove_40 : decode cX7_remove 40 = .ok (.aload_n 0, 1) := by decide +kernel
theorem dX7_remove_41 : decode cX7_remove 41 = .ok (.getfield 15, 3) := by decide +kernel
theorem dX7_remove_44 : decode cX7_remove 44 = .ok (.iload_n 1, 1) := by decide +kernel
theorem dX7_remove_45 : decode cX7_remove 45 = .ok (.aload_n 0, 1) := by decide +kernel
theorem dX7_remove_46 : decode cX7_remove 46 = .ok (.getfield 15, 3) := by decide +kernel
theorem dX7_remove_49 : decode cX7_remove 49 = .ok (.aload_n 0, 1) := by decide +kernel
theorem dX7_remove_50 : decode cX7_remove 50 = .ok (.getfield 40, 3) := by decide +kernel
theorem dX7_remove_53 : decode cX7_remove 53 = .ok (.iaload, 1) := by decide +kernel
theorem dX7_remove_54 : decode cX7_remove 54 = .ok (.iastore, 1) := by decide +kernel
theorem dX7_remove_55 : decode cX7_remove 55 = .ok (.aload_n 0, 1) := by decide +kernel
theorem dX7_remove_56 : decode cX7_remove 56 = .ok (.getfield 18, 3) := by decide +kernel
theorem dX7_remove_59 : decode cX7_remove 59 = .ok (.iload_n 1, 1) := by decide +kernel
theorem dX7_remove_60 : decode cX7_remove 60 = .ok (.aload_n 0, 1) := by decide +kernel
theorem dX7_remove_61 : decode cX7_remove 61 = .ok (.getfield 18, 3) := by decide +kernel
theorem dX7_remove_64 : decode cX7_remove 64 = .ok (.aload_n 0, 1) := by decide +kernel
theorem dX7_remove_65 : decode cX7_remove 65 = .ok (.getfield 40, 3) := by decide +kernel
theorem dX7_remove_68 : decode cX7_remove 68 = .ok (.iaload, 1) := by decide +kernel
theorem dX7_remove_69 : decode cX7_remove 69 = .ok (.iastore, 1) := by decide +kernel
theorem dX7_remove_70 : decode cX7_remove 70 = .ok (.aload_n 0, 1) := by decide +kernel
theorem dX7_remove_71 : decode cX7_remove 71 = .ok (.getfield 21, 3) := by decide +kernel
theorem dX7_remove_74 : decode cX7_remove 74 = .ok (.iload_n 1, 1) := by decide +kernel
theorem dX7_remove_75 : decode cX7_remove 75 = .ok (.aload_n 0, 1) := by decide +kernel
theorem dX7_remove_76 : decode cX7_remove 76 = .ok (.getfield 21, 3) := by decide +kernel
theorem dX7_remove_79 : decode cX7_remove 79 = .ok (.aload_n 0, 1) := by decide +kernel
theorem dX7_remove_80 : decode cX7_remove 80 = .ok (.getfield 40, 3) := by decide +kernel
theorem dX7_remove_83 : decode cX7_remove 83 = .ok (.iaload, 1) := by decide +kernel
theorem dX7_remove_84 : decode cX7_remove 84 = .ok (.iastore, 1) := by decide +kernel
theorem dX7_remove_85 : decode cX7_remove 85 = .ok (.aload_n 0, 1) := by decide +kernel
theorem dX7_remove_86 : decode cX7_remove 86 = .ok (.getfield 24, 3) := by decide +kernel
theorem dX7_remove_89 : decode cX7_remove 89 = .ok (.iload_n 1, 1) := by decide +kernel
theorem dX7_remove_90 : decode cX7_remove 90 = .ok (.aload_n 0, 1) := by decide +kernel
theorem dX7_remove_91 : decode cX7_remove 91 = .ok (.getfield 24, 3) := by decide +kernel
theorem dX7_remove_94 : decode cX7_remove 94 = .ok (.aload_n 0, 1) := by decide +kernel
theorem dX7_remove_95 : decode cX7_remove 95 = .ok (.getfield 40, 3) := by decide +kernel
theorem dX7_remove_98 : decode cX7_remove 98 = .ok (.iaload, 1) := by decide +kernel
theorem dX7_remove_99 : decode cX7_remove 99 = .ok (.iastore, 1) := by decide +kernel
theorem dX7_remove_100 : decode cX7_remove 100 = .ok (.return_, 1) := by decide +kernel
set_option maxRecDepth 20000 in
theorem ggX7_markQuick_X7_mark : GoodIn wsX7_markQuick wsX7_mark := goodIn_r _ [5, 6, 7, 8, 9, 10, 11, 12, 13, 14, 15, 16, 17, 18, 19, 20, 21, 22, 23, 24] (by decide +kernel) (by decide +kernel)
set_option maxRecDepth 20000 in
theorem gX7_markQuick_X7_mark : GoodIn wsX7_markQuick (wsV RX7 64 RX7 yX7_mark wsX7_mark) := goodIn_app (goodIn_of _ (by decide +kernel)) ggX7_markQuick_X7_mark
theorem dX7_markQuick_0 : decode cX7_markQuick 0 = .ok (.aload_n 0, 1) := by decide +kernel
theorem dX7_markQuick_1 : decode cX7_markQuick 1 = .ok (.iload_n 1, 1) := by decide +kernel
theorem dX7_markQuick_2 : decode cX7_markQuick 2 = .ok (.iload_n 2, 1) := by decide +kernel
theorem dX7_markQuick_3 : decode cX7_markQuick 3 = .ok (.bipush (-2), 2) := by decide +kernel
theorem dX7_markQuick_5 : decode cX7_markQuick 5 = .ok (.invokevirtual 64, 3) := by decide +kernel
theorem dX7_markQuick_8 : decode cX7_markQuick 8 = .ok (.return_, 1) := by decide +kernel
set_option maxRecDepth 20000 in
theorem ggX7_markFree_X7_mark : GoodIn wsX7_markFree wsX7_mark := goodIn_r _ [5, 6, 7, 8, 9, 10, 11, 12, 13, 14, 15, 16, 17, 18, 19, 20, 21, 22, 23, 24] (by decide +kernel) (by decide +kernel)
set_option maxRecDepth 20000 in
theorem gX7_markFree_X7_mark : GoodIn wsX7_markFree (wsV RX7 64 RX7 yX7_mark wsX7_mark) := goodIn_app (goodIn_of _ (by decide +kernel)) ggX7_markFree_X7_mark
theorem dX7_markFree_0 : decode cX7_markFree 0 = .ok (.aload_n 0, 1) := by decide +kernel
theorem dX7_markFree_1 : decode cX7_markFree 1 = .ok (.iload_n 1, 1) := by decide +kernel
theorem dX7_markFree_2 : decode cX7_markFree 2 = .ok (.iload_n 2, 1) := by decide +kernel
theorem dX7_markFree_3 : decode cX7_markFree 3 = .ok (.iconst (-1), 1) := by decide +kernel
theorem dX7_markFree_4 : decode cX7_markFree 4 = .ok (.invokevirtual 64, 3) := by decide +kernel
theorem dX7_markFree_7 : decode cX7_markFree 7 = .ok (.return_, 1) := by decide +kernel
theorem dX7_mark_0 : decode cX7_mark 0 = .ok (.iload_n 1, 1) := by decide +kernel
theorem dX7_mark_1 : decode cX7_mark 1 = .ok (.iload_n 2, 1) := by decide +kernel
theorem dX7_mark_2 : decode cX7_mark 2 = .ok (.iadd, 1) := by decide +kernel
theorem dX7_mark_3 : decode cX7_mark 3 = .ok (.aload_n 0, 1) := by decide +kernel
theorem dX7_mark_4 : decode cX7_mark 4 = .ok (.getfield 36, 3) := by decide +kernel
theorem dX7_mark_7 : decode cX7_mark 7 = .ok (.invokestatic 55, 3) := by decide +kernel
theorem dX7_mark_10 : decode cX7_mark 10 = .ok (.istore 4, 2) := by decide +kernel
theorem dX7_mark_12 : decode cX7_mark 12 = .ok (.iload_n 1, 1) := by decide +kernel
theorem dX7_mark_13 : decode cX7_mark 13 = .ok (.iconst 0, 1) := by decide +kernel
theorem dX7_mark_14 : decode cX7_mark 14 = .ok (.invokestatic 49, 3) := by decide +kernel
theorem dX7_mark_17 : decode cX7_mark 17 = .ok (.istore 5, 2) := by decide +kernel
theorem dX7_mark_19 : decode cX7_mark 19 = .ok (.iload 5, 2) := by decide +kernel
theorem dX7_mark_21 : decode cX7_mark 21 = .ok (.iload 4, 2) := by decide +kernel
theorem dX7_mark_23 : decode cX7_mark 23 = .ok (.if_icmp .ge 17, 3) := by decide +kernel
theorem dX7_mark_26 : decode cX7_mark 26 = .ok (.aload_n 0, 1) := by decide +kernel
theorem dX7_mark_27 : decode cX7_mark 27 = .ok (.getfield 9, 3) := by decide +kernel
theorem dX7_mark_30 : decode cX7_mark 30 = .ok (.iload 5, 2) := by decide +kernel
theorem dX7_mark_32 : decode cX7_mark 32 = .ok (.iload_n 3, 1) := by decide +kernel
theorem dX7_mark_33 : decode cX7_mark 33 = .ok (.iastore, 1) := by decide +kernel
theorem dX7_mark_34 : decode cX7_mark 34 = .ok (.iinc 5 1, 3) := by decide +kernel
theorem dX7_mark_37 : decode cX7_mark 37 = .ok (.goto (-18), 3) := by decide +kernel
theorem dX7_mark_40 : decode cX7_mark 40 = .ok (.return_, 1) := by decide +kernel
theorem dX7_slotOf_0 : decode cX7_slotOf 0 = .ok (.iconst 0, 1) := by decide +kernel
theorem dX7_slotOf_1 : decode cX7_slotOf 1 = .ok (.istore_n 2, 1) := by decide +kernel
theorem dX7_slotOf_2 : decode cX7_slotOf 2 = .ok (.iload_n 2, 1) := by decide +kernel
theorem dX7_slotOf_3 : decode cX7_slotOf 3 = .ok (.aload_n 0, 1) := by decide +kernel
theorem dX7_slotOf_4 : decode cX7_slotOf 4 = .ok (.getfield 40, 3) := by decide +kernel
theorem dX7_slotOf_7 : decode cX7_slotOf 7 = .ok (.if_icmp .ge 21, 3) := by decide +kernel
theorem dX7_slotOf_10 : decode cX7_slotOf 10 = .ok (.aload_n 0, 1) := by decide +kernel
theorem dX7_slotOf_11 : decode cX7_slotOf 11 = .ok (.getfield 15, 3) := by decide +kernel
theorem dX7_slotOf_14 : decode cX7_slotOf 14 = .ok (.iload_n 2, 1) := by decide +kernel
theorem dX7_slotOf_15 : decode cX7_slotOf 15 = .ok (.iaload, 1) := by decide +kernel
theorem dX7_slotOf_16 : decode cX7_slotOf 16 = .ok (.iload_n 1, 1) := by decide +kernel
theorem dX7_slotOf_17 : decode cX7_slotOf 17 = .ok (.if_icmp .ne 5, 3) := by decide +kernel
theorem dX7_slotOf_20 : decode cX7_slotOf 20 = .ok (.iload_n 2, 1) := by decide +kernel
theorem dX7_slotOf_21 : decode cX7_slotOf 21 = .ok (.ireturn, 1) := by decide +kernel
theorem dX7_slotOf_22 : decode cX7_slotOf 22 = .ok (.iinc 2 1, 3) := by decide +kernel
theorem dX7_slotOf_25 : decode cX7_slotOf 25 = .ok (.goto (-23), 3) := by decide +kernel
theorem dX7_slotOf_28 : decode cX7_slotOf 28 = .ok (.iconst (-1), 1) := by decide +kernel
theorem dX7_slotOf_29 : decode cX7_slotOf 29 = .ok (.ireturn, 1) := by decide +kernel
theorem dX7_placeOf_0 : decode cX7_placeOf 0 = .ok (.iload_n 1, 1) := by decide +kernel
theorem dX7_placeOf_1 : decode cX7_placeOf 1 = .ok (.ifCond .lt 11, 3) := by decide +kernel
theorem dX7_placeOf_4 : decode cX7_placeOf 4 = .ok (.iload_n 1, 1) := by decide +kernel
theorem dX7_placeOf_5 : decode cX7_placeOf 5 = .ok (.aload_n 0, 1) := by decide +kernel
theorem dX7_placeOf_6 : decode cX7_placeOf 6 = .ok (.getfield 40, 3) := by decide +kernel
theorem dX7_placeOf_9 : decode cX7_placeOf 9 = .ok (.if_icmp .lt 7, 3) := by decide +kernel
theorem dX7_placeOf_12 : decode cX7_placeOf 12 = .ok (.iconst (-1), 1) := by decide +kernel
theorem dX7_placeOf_13 : decode cX7_placeOf 13 = .ok (.goto 9, 3) := by decide +kernel
theorem dX7_placeOf_16 : decode cX7_placeOf 16 = .ok (.aload_n 0, 1) := by decide +kernel
theorem dX7_placeOf_17 : decode cX7_placeOf 17 = .ok (.getfield 18, 3) := by decide +kernel
theorem dX7_placeOf_20 : decode cX7_placeOf 20 = .ok (.iload_n 1, 1) := by decide +kernel
theorem dX7_placeOf_21 : decode cX7_placeOf 21 = .ok (.iaload, 1) := by decide +kernel
theorem dX7_placeOf_22 : decode cX7_placeOf 22 = .ok (.ireturn, 1) := by decide +kernel
theorem dX7_spanOf_0 : decode cX7_spanOf 0 = .ok (.iload_n 1, 1) := by decide +kernel
theorem dX7_spanOf_1 : decode cX7_spanOf 1 = .ok (.ifCond .lt 11, 3) := by decide +kernel
theorem dX7_spanOf_4 : decode cX7_spanOf 4 = .ok (.iload_n 1, 1) := by decide +kernel
theorem dX7_spanOf_5 : decode cX7_spanOf 5 = .ok (.aload_n 0, 1) := by decide +kernel
theorem dX7_spanOf_6 : decode cX7_spanOf 6 = .ok (.getfield 40, 3) := by decide +kernel
theorem dX7_spanOf_9 : decode cX7_spanOf 9 = .ok (.if_icmp .lt 7, 3) := by decide +kernel
theorem dX7_spanOf_12 : decode cX7_spanOf 12 = .ok (.iconst 0, 1) := by decide +kernel
theorem dX7_spanOf_13 : decode cX7_spanOf 13 = .ok (.goto 9, 3) := by decide +kernel
theorem dX7_spanOf_16 : decode cX7_spanOf 16 = .ok (.aload_n 0, 1) := by decide +kernel
theorem dX7_spanOf_17 : decode cX7_spanOf 17 = .ok (.getfield 21, 3) := by decide +kernel
theorem dX7_spanOf_20 : decode cX7_spanOf 20 = .ok (.iload_n 1, 1) := by decide +kernel
theorem dX7_spanOf_21 : decode cX7_spanOf 21 = .ok (.iaload, 1) := by decide +kernel
theorem dX7_spanOf_22 : decode cX7_spanOf 22 = .ok (.ireturn, 1) := by decide +kernel
theorem dX7_askedOf_0 : decode cX7_askedOf 0 = .ok (.iload_n 1, 1) := by decide +kernel
theorem dX7_askedOf_1 : decode cX7_askedOf 1 = .ok (.ifCond .lt 11, 3) := by decide +kernel
theorem dX7_askedOf_4 : decode cX7_askedOf 4 = .ok (.iload_n 1, 1) := by decide +kernel
theorem dX7_askedOf_5 : decode cX7_askedOf 5 = .ok (.aload_n 0, 1) := by decide +kernel
theorem dX7_askedOf_6 : decode cX7_askedOf 6 = .ok (.getfield 40, 3) := by decide +kernel
theorem dX7_askedOf_9 : decode cX7_askedOf 9 = .ok (.if_icmp .lt 7, 3) := by decide +kernel
theorem dX7_askedOf_12 : decode cX7_askedOf 12 = .ok (.iconst 0, 1) := by decide +kernel
theorem dX7_askedOf_13 : decode cX7_askedOf 13 = .ok (.goto 9, 3) := by decide +kernel
theorem dX7_askedOf_16 : decode cX7_askedOf 16 = .ok (.aload_n 0, 1) := by decide +kernel
theorem dX7_askedOf_17 : decode cX7_askedOf 17 = .ok (.getfield 24, 3) := by decide +kernel
theorem dX7_askedOf_20 : decode cX7_askedOf 20 = .ok (.iload_n 1, 1) := by decide +kernel
theorem dX7_askedOf_21 : decode cX7_askedOf 21 = .ok (.iaload, 1) := by decide +kernel
theorem dX7_askedOf_22 : decode cX7_askedOf 22 = .ok (.ireturn, 1) := by decide +kernel
theorem dX7_blockAt_0 : decode cX7_blockAt 0 = .ok (.iload_n 1, 1) := by decide +kernel
theorem dX7_blockAt_1 : decode cX7_blockAt 1 = .ok (.ifCond .lt 11, 3) := by decide +kernel
theorem dX7_blockAt_4 : decode cX7_blockAt 4 = .ok (.iload_n 1, 1) := by decide +kernel
theorem dX7_blockAt_5 : decode cX7_blockAt 5 = .ok (.aload_n 0, 1) := by decide +kernel
theorem dX7_blockAt_6 : decode cX7_blockAt 6 = .ok (.getfield 36, 3) := by decide +kernel
theorem dX7_blockAt_9 : decode cX7_blockAt 9 = .ok (.if_icmp .lt 7, 3) := by decide +kernel
theorem dX7_blockAt_12 : decode cX7_blockAt 12 = .ok (.iconst (-1), 1) := by decide +kernel
theorem dX7_blockAt_13 : decode cX7_blockAt 13 = .ok (.goto 13, 3) := by decide +kernel
theorem dX7_blockAt_16 : decode cX7_blockAt 16 = .ok (.aload_n 0, 1) := by decide +kernel
theorem dX7_blockAt_17 : decode cX7_blockAt 17 = .ok (.getfield 9, 3) := by decide +kernel
theorem dX7_blockAt_20 : decode cX7_blockAt 20 = .ok (.iload_n 1, 1) := by decide +kernel
theorem dX7_blockAt_21 : decode cX7_blockAt 21 = .ok (.iaload, 1) := by decide +kernel
theorem dX7_blockAt_22 : decode cX7_blockAt 22 = .ok (.iconst (-1), 1) := by decide +kernel
theorem dX7_blockAt_23 : decode cX7_blockAt 23 = .ok (.invokestatic 49, 3) := by decide +kernel
theorem dX7_blockAt_26 : decode cX7_blockAt 26 = .ok (.ireturn, 1) := by decide +kernel
theorem dX7_isFree_0 : decode cX7_isFree 0 = .ok (.iload_n 1, 1) := by decide +kernel
theorem dX7_isFree_1 : decode cX7_isFree 1 = .ok (.ifCond .lt 25, 3) := by decide +kernel
theorem dX7_isFree_4 : decode cX7_isFree 4 = .ok (.iload_n 1, 1) := by decide +kernel
theorem dX7_isFree_5 : decode cX7_isFree 5 = .ok (.aload_n 0, 1) := by decide +kernel
theorem dX7_isFree_6 : decode cX7_isFree 6 = .ok (.getfield 36, 3) := by decide +kernel
theorem dX7_isFree_9 : decode cX7_isFree 9 = .ok (.if_icmp .ge 17, 3) := by decide +kernel
theorem dX7_isFree_12 : decode cX7_isFree 12 = .ok (.aload_n 0, 1) := by decide +kernel
theorem dX7_isFree_13 : decode cX7_isFree 13 = .ok (.getfield 9, 3) := by decide +kernel
theorem dX7_isFree_16 : decode cX7_isFree 16 = .ok (.iload_n 1, 1) := by decide +kernel
theorem dX7_isFree_17 : decode cX7_isFree 17 = .ok (.iaload, 1) := by decide +kernel
theorem dX7_isFree_18 : decode cX7_isFree 18 = .ok (.iconst (-1), 1) := by decide +kernel
theorem dX7_isFree_19 : decode cX7_isFree 19 = .ok (.if_icmp .ne 7, 3) := by decide +kernel
theorem dX7_isFree_22 : decode cX7_isFree 22 = .ok (.iconst 1, 1) := by decide +kernel
theorem dX7_isFree_23 : decode cX7_isFree 23 = .ok (.goto 4, 3) := by decide +kernel
theorem dX7_isFree_26 : decode cX7_isFree 26 = .ok (.iconst 0, 1) := by decide +kernel
theorem dX7_isFree_27 : decode cX7_isFree 27 = .ok (.ireturn, 1) := by decide +kernel
theorem dX7_askedTogether_0 : decode cX7_askedTogether 0 = .ok (.iconst 0, 1) := by decide +kernel
theorem dX7_askedTogether_1 : decode cX7_askedTogether 1 = .ok (.istore_n 1, 1) := by decide +kernel
theorem dX7_askedTogether_2 : decode cX7_askedTogether 2 = .ok (.iconst 0, 1) := by decide +kernel
theorem dX7_askedTogether_3 : decode cX7_askedTogether 3 = .ok (.istore_n 2, 1) := by decide +kernel
theorem dX7_askedTogether_4 : decode cX7_askedTogether 4 = .ok (.iload_n 2, 1) := by decide +kernel
theorem dX7_askedTogether_5 : decode cX7_askedTogether 5 = .ok (.aload_n 0, 1) := by decide +kernel
theorem dX7_askedTogether_6 : decode cX7_askedTogether 6 = .ok (.getfield 40, 3) := by decide +kernel
theorem dX7_askedTogether_9 : decode cX7_askedTogether 9 = .ok (.if_icmp .ge 18, 3) := by decide +kernel
theorem dX7_askedTogether_12 : decode cX7_askedTogether 12 = .ok (.iload_n 1, 1) := by decide +kernel
theorem dX7_askedTogether_13 : decode cX7_askedTogether 13 = .ok (.aload_n 0, 1) := by decide +kernel
theorem dX7_askedTogether_14 : decode cX7_askedTogether 14 = .ok (.getfield 24, 3) := by decide +kernel
theorem dX7_askedTogether_17 : decode cX7_askedTogether 17 = .ok (.iload_n 2, 1) := by decide +kernel
theorem dX7_askedTogether_18 : decode cX7_askedTogether 18 = .ok (.iaload, 1) := by decide +kernel
theorem dX7_askedTogether_19 : decode cX7_askedTogether 19 = .ok (.iadd, 1) := by decide +kernel
theorem dX7_askedTogether_20 : decode cX7_askedTogether 20 = .ok (.istore_n 1, 1) := by decide +kernel
theorem dX7_askedTogether_21 : decode cX7_askedTogether 21 = .ok (.iinc 2 1, 3) := by decide +kernel
theorem dX7_askedTogether_24 : decode cX7_askedTogether 24 = .ok (.goto (-20), 3) := by decide +kernel
theorem dX7_askedTogether_27 : decode cX7_askedTogether 27 = .ok (.iload_n 1, 1) := by decide +kernel
theorem dX7_askedTogether_28 : decode cX7_askedTogether 28 = .ok (.ireturn, 1) := by decide +kernel
theorem dX7_spansTogether_0 : decode cX7_spansTogether 0 = .ok (.iconst 0, 1) := by decide +kernel
theorem dX7_spansTogether_1 : decode cX7_spansTogether 1 = .ok (.istore_n 1, 1) := by decide +kernel
theorem dX7_spansTogether_2 : decode cX7_spansTogether 2 = .ok (.iconst 0, 1) := by decide +kernel
theorem dX7_spansTogether_3 : decode cX7_spansTogether 3 = .ok (.istore_n 2, 1) := by decide +kernel
theorem dX7_spansTogether_4 : decode cX7_spansTogether 4 = .ok (.iload_n 2, 1) := by decide +kernel
theorem dX7_spansTogether_5 : decode cX7_spansTogether 5 = .ok (.aload_n 0, 1) := by decide +kernel
theorem dX7_spansTogether_6 : decode cX7_spansTogether 6 = .ok (.getfield 40, 3) := by decide +kernel
theorem dX7_spansTogether_9 : decode cX7_spansTogether 9 = .ok (.if_icmp .ge 18, 3) := by decide +kernel
theorem dX7_spansTogether_12 : decode cX7_spansTogether 12 = .ok (.iload_n 1, 1) := by decide +kernel
theorem dX7_spansTogether_13 : decode cX7_spansTogether 13 = .ok (.aload_n 0, 1) := by decide +kernel
theorem dX7_spansTogether_14 : decode cX7_spansTogether 14 = .ok (.getfield 21, 3) := by decide +kernel
theorem dX7_spansTogether_17 : decode cX7_spansTogether 17 = .ok (.iload_n 2, 1) := by decide +kernel
theorem dX7_spansTogether_18 : decode cX7_spansTogether 18 = .ok (.iaload, 1) := by decide +kernel
theorem dX7_spansTogether_19 : decode cX7_spansTogether 19 = .ok (.iadd, 1) := by decide +kernel
theorem dX7_spansTogether_20 : decode cX7_spansTogether 20 = .ok (.istore_n 1, 1) := by decide +kernel
theorem dX7_spansTogether_21 : decode cX7_spansTogether 21 = .ok (.iinc 2 1, 3) := by decide +kernel
theorem dX7_spansTogether_24 : decode cX7_spansTogether 24 = .ok (.goto (-20), 3) := by decide +kernel
theorem dX7_spansTogether_27 : decode cX7_spansTogether 27 = .ok (.iload_n 1, 1) := by decide +kernel
theorem dX7_spansTogether_28 : decode cX7_spansTogether 28 = .ok (.ireturn, 1) := by decide +kernel
set_option maxRecDepth 20000 in
theorem ggX7_listRuns_X10_clear : GoodIn wsX7_listRuns wsX10_clear := goodIn_r _ [7, 8, 31, 32, 33, 34] (by decide +kernel) (by decide +kernel)
set_option maxRecDepth 20000 in
theorem gX7_listRuns_X10_clear : GoodIn wsX7_listRuns (wsV RX7 68 RX10 yX10_clear wsX10_clear) := goodIn_app (goodIn_of _ (by decide +kernel)) ggX7_listRuns_X10_clear
set_option maxRecDepth 20000 in
theorem ggX7_listRuns_X7_isFree : GoodIn wsX7_listRuns wsX7_isFree := goodIn_r _ [13, 2, 14, 21, 22, 23, 24, 25, 26, 27, 28, 29, 30] (by decide +kernel) (by decide +kernel)
set_option maxRecDepth 20000 in
theorem gX7_listRuns_X7_isFree : GoodIn wsX7_listRuns (wsV RX7 71 RX7 yX7_isFree wsX7_isFree) := goodIn_app (goodIn_of _ (by decide +kernel)) ggX7_listRuns_X7_isFree
set_option maxRecDepth 20000 in
theorem ggX7_listRuns_X10_add : GoodIn wsX7_listRuns wsX10_add := goodIn_r _ [18, 8, 19, 20, 31, 32, 33, 34] (by decide +kernel) (by decide +kernel)
set_option maxRecDepth 20000 in
theorem gX7_listRuns_X10_add : GoodIn wsX7_listRuns (wsV RX7 75 RX10 yX10_add wsX10_add) := goodIn_app (goodIn_of _ (by decide +kernel)) ggX7_listRuns_X10_add
theorem dX7_listRuns_0 : decode cX7_listRuns 0 = .ok (.aload_n 0, 1) := by decide +kernel
theorem dX7_listRuns_1 : decode cX7_listRuns 1 = .ok (.getfield 32, 3) := by decide +kernel
theorem dX7_listRuns_4 : decode cX7_listRuns 4 = .ok (.invokevirtual 68, 3) := by decide +kernel
theorem dX7_listRuns_7 : decode cX7_listRuns 7 = .ok (.iconst 0, 1) := by decide +kernel
theorem dX7_listRuns_8 : decode cX7_listRuns 8 = .ok (.istore_n 1, 1) := by decide +kernel
theorem dX7_listRuns_9 : decode cX7_listRuns 9 = .ok (.iconst 0, 1) := by decide +kernel
theorem dX7_listRuns_10 : decode cX7_listRuns 10 = .ok (.istore_n 2, 1) := by decide +kernel
theorem dX7_listRuns_11 : decode cX7_listRuns 11 = .ok (.iload_n 2, 1) := by decide +kernel
theorem dX7_listRuns_12 : decode cX7_listRuns 12 = .ok (.aload_n 0, 1) := by decide +kernel
theorem dX7_listRuns_13 : decode cX7_listRuns 13 = .ok (.getfield 36, 3) := by decide +kernel
theorem dX7_listRuns_16 : decode cX7_listRuns 16 = .ok (.if_icmp .gt 37, 3) := by decide +kernel
theorem dX7_listRuns_19 : decode cX7_listRuns 19 = .ok (.aload_n 0, 1) := by decide +kernel
theorem dX7_listRuns_20 : decode cX7_listRuns 20 = .ok (.iload_n 2, 1) := by decide +kernel
theorem dX7_listRuns_21 : decode cX7_listRuns 21 = .ok (.invokevirtual 71, 3) := by decide +kernel
theorem dX7_listRuns_24 : decode cX7_listRuns 24 = .ok (.ifCond .ne 23, 3) := by decide +kernel
theorem dX7_listRuns_27 : decode cX7_listRuns 27 = .ok (.iload_n 2, 1) := by decide +kernel
theorem dX7_listRuns_28 : decode cX7_listRuns 28 = .ok (.iload_n 1, 1) := by decide +kernel
theorem dX7_listRuns_29 : decode cX7_listRuns 29 = .ok (.if_icmp .le 14, 3) := by decide +kernel
theorem dX7_listRuns_32 : decode cX7_listRuns 32 = .ok (.aload_n 0, 1) := by decide +kernel
theorem dX7_listRuns_33 : decode cX7_listRuns 33 = .ok (.getfield 32, 3) := by decide +kernel
theorem dX7_listRuns_36 : decode cX7_listRuns 36 = .ok (.iload_n 1, 1) := by decide +kernel
theorem dX7_listRuns_37 : decode cX7_listRuns 37 = .ok (.iload_n 2, 1) := by decide +kernel
theorem dX7_listRuns_38 : decode cX7_listRuns 38 = .ok (.iload_n 1, 1) := by decide +kernel
theorem dX7_listRuns_39 : decode cX7_listRuns 39 = .ok (.isub, 1) := by decide +kernel
theorem dX7_listRuns_40 : decode cX7_listRuns 40 = .ok (.invokevirtual 75, 3) := by decide +kernel
theorem dX7_listRuns_43 : decode cX7_listRuns 43 = .ok (.iload_n 2, 1) := by decide +kernel
theorem dX7_listRuns_44 : decode cX7_listRuns 44 = .ok (.iconst 1, 1) := by decide +kernel
theorem dX7_listRuns_45 : decode cX7_listRuns 45 = .ok (.iadd, 1) := by decide +kernel
theorem dX7_listRuns_46 : decode cX7_listRuns 46 = .ok (.istore_n 1, 1) := by decide +kernel
theorem dX7_listRuns_47 : decode cX7_listRuns 47 = .ok (.iinc 2 1, 3) := by decide +kernel
theorem dX7_listRuns_50 : decode cX7_listRuns 50 = .ok (.goto (-39), 3) := by decide +kernel
theorem dX7_listRuns_53 : decode cX7_listRuns 53 = .ok (.aload_n 0, 1) := by decide +kernel
theorem dX7_listRuns_54 : decode cX7_listRuns 54 = .ok (.getfield 32, 3) := by decide +kernel
theorem dX7_listRuns_57 : decode cX7_listRuns 57 = .ok (.areturn, 1) := by decide +kernel
theorem dX10_init_0 : decode cX10_init 0 = .ok (.aload_n 0, 1) := by decide +kernel
theorem dX10_init_1 : decode cX10_init 1 = .ok (.invokespecial 3, 3) := by decide +kernel
theorem dX10_init_4 : decode cX10_init 4 = .ok (.aload_n 0, 1) := by decide +kernel
theorem dX10_init_5 : decode cX10_init 5 = .ok (.iconst 0, 1) := by decide +kernel
theorem dX10_init_6 : decode cX10_init 6 = .ok (.putfield 9, 3) := by decide +kernel
theorem dX10_init_9 : decode cX10_init 9 = .ok (.aload_n 0, 1) := by decide +kernel
theorem dX10_init_10 : decode cX10_init 10 = .ok (.iconst 0, 1) := by decide +kernel
theorem dX10_init_11 : decode cX10_init 11 = .ok (.putfield 15, 3) := by decide +kernel
theorem dX10_init_14 : decode cX10_init 14 = .ok (.iload_n 1, 1) := by decide +kernel
theorem dX10_init_15 : decode cX10_init 15 = .ok (.iconst 0, 1) := by decide +kernel
theorem dX10_init_16 : decode cX10_init 16 = .ok (.invokestatic 18, 3) := by decide +kernel
theorem dX10_init_19 : decode cX10_init 19 = .ok (.istore_n 2, 1) := by decide +kernel
theorem dX10_init_20 : decode cX10_init 20 = .ok (.aload_n 0, 1) := by decide +kernel
theorem dX10_init_21 : decode cX10_init 21 = .ok (.iload_n 2, 1) := by decide +kernel
theorem dX10_init_22 : decode cX10_init 22 = .ok (.newarray .int, 2) := by decide +kernel
theorem dX10_init_24 : decode cX10_init 24 = .ok (.putfield 24, 3) := by decide +kernel
theorem dX10_init_27 : decode cX10_init 27 = .ok (.aload_n 0, 1) := by decide +kernel
theorem dX10_init_28 : decode cX10_init 28 = .ok (.iload_n 2, 1) := by decide +kernel
theorem dX10_init_29 : decode cX10_init 29 = .ok (.newarray .int, 2) := by decide +kernel
theorem dX10_init_31 : decode cX10_init 31 = .ok (.putfield 28, 3) := by decide +kernel
theorem dX10_init_34 : decode cX10_init 34 = .ok (.return_, 1) := by decide +kernel
theorem dX10_clear_0 : decode cX10_clear 0 = .ok (.aload_n 0, 1) := by decide +kernel
theorem dX10_clear_1 : decode cX10_clear 1 = .ok (.iconst 0, 1) := by decide +kernel
theorem dX10_clear_2 : decode cX10_clear 2 = .ok (.putfield 9, 3) := by decide +kernel
theorem dX10_clear_5 : decode cX10_clear 5 = .ok (.return_, 1) := by decide +kernel
theorem dX10_size_0 : decode cX10_size 0 = .ok (.aload_n 0, 1) := by decide +kernel
theorem dX10_size_1 : decode cX10_size 1 = .ok (.getfield 9, 3) := by decide +kernel
theorem dX10_size_4 : decode cX10_size 4 = .ok (.ireturn, 1) := by decide +kernel
theorem dX10_add_0 : decode cX10_add 0 = .ok (.aload_n 0, 1) := by decide +kernel
theorem dX10_add_1 : decode cX10_add 1 = .ok (.getfield 9, 3) := by decide +kernel
theorem dX10_add_4 : decode cX10_add 4 = .ok (.aload_n 0, 1) := by decide +kernel
theorem dX10_add_5 : decode cX10_add 5 = .ok (.getfield 24, 3) := by decide +kernel
theorem dX10_add_8 : decode cX10_add 8 = .ok (.arraylength, 1) := by decide +kernel
theorem dX10_add_9 : decode cX10_add 9 = .ok (.if_icmp .ge 33, 3) := by decide +kernel
theorem dX10_add_12 : decode cX10_add 12 = .ok (.aload_n 0, 1) := by decide +kernel
theorem dX10_add_13 : decode cX10_add 13 = .ok (.getfield 24, 3) := by decide +kernel
theorem dX10_add_16 : decode cX10_add 16 = .ok (.aload_n 0, 1) := by decide +kernel
theorem dX10_add_17 : decode cX10_add 17 = .ok (.getfield 9, 3) := by decide +kernel
theorem dX10_add_20 : decode cX10_add 20 = .ok (.iload_n 1, 1) := by decide +kernel
theorem dX10_add_21 : decode cX10_add 21 = .ok (.iastore, 1) := by decide +kernel
theorem dX10_add_22 : decode cX10_add 22 = .ok (.aload_n 0, 1) := by decide +kernel
theorem dX10_add_23 : decode cX10_add 23 = .ok (.getfield 28, 3) := by decide +kernel
theorem dX10_add_26 : decode cX10_add 26 = .ok (.aload_n 0, 1) := by decide +kernel
theorem dX10_add_27 : decode cX10_add 27 = .ok (.getfield 9, 3) := by decide +kernel
theorem dX10_add_30 : decode cX10_add 30 = .ok (.iload_n 2, 1) := by decide +kernel
theorem dX10_add_31 : decode cX10_add 31 = .ok (.iastore, 1) := by decide +kernel
theorem dX10_add_32 : decode cX10_add 32 = .ok (.aload_n 0, 1) := by decide +kernel
theorem dX10_add_33 : decode cX10_add 33 = .ok (.dup, 1) := by decide +kernel
theorem dX10_add_34 : decode cX10_add 34 = .ok (.getfield 9, 3) := by decide +kernel
theorem dX10_add_37 : decode cX10_add 37 = .ok (.iconst 1, 1) := by decide +kernel
theorem dX10_add_38 : decode cX10_add 38 = .ok (.iadd, 1) := by decide +kernel
theorem dX10_add_39 : decode cX10_add 39 = .ok (.putfield 9, 3) := by decide +kernel
theorem dX10_add_42 : decode cX10_add 42 = .ok (.return_, 1) := by decide +kernel
theorem dX10_remove_0 : decode cX10_remove 0 = .ok (.iload_n 1, 1) := by decide +kernel
theorem dX10_remove_1 : decode cX10_remove 1 = .ok (.ifCond .lt 11, 3) := by decide +kernel
theorem dX10_remove_4 : decode cX10_remove 4 = .ok (.iload_n 1, 1) := by decide +kernel
theorem dX10_remove_5 : decode cX10_remove 5 = .ok (.aload_n 0, 1) := by decide +kernel
theorem dX10_remove_6 : decode cX10_remove 6 = .ok (.getfield 9, 3) := by decide +kernel
theorem dX10_remove_9 : decode cX10_remove 9 = .ok (.if_icmp .lt 4, 3) := by decide +kernel
theorem dX10_remove_12 : decode cX10_remove 12 = .ok (.return_, 1) := by decide +kernel
theorem dX10_remove_13 : decode cX10_remove 13 = .ok (.aload_n 0, 1) := by decide +kernel
theorem dX10_remove_14 : decode cX10_remove 14 = .ok (.dup, 1) := by decide +kernel
theorem dX10_remove_15 : decode cX10_remove 15 = .ok (.getfield 9, 3) := by decide +kernel
theorem dX10_remove_18 : decode cX10_remove 18 = .ok (.iconst 1, 1) := by decide +kernel
theorem dX10_remove_19 : decode cX10_remove 19 = .ok (.isub, 1) := by decide +kernel
theorem dX10_remove_20 : decode cX10_remove 20 = .ok (.putfield 9, 3) := by decide +kernel
theorem dX10_remove_23 : decode cX10_remove 23 = .ok (.aload_n 0, 1) := by decide +kernel
theorem dX10_remove_24 : decode cX10_remove 24 = .ok (.getfield 24, 3) := by decide +kernel
theorem dX10_remove_27 : decode cX10_remove 27 = .ok (.iload_n 1, 1) := by decide +kernel
theorem dX10_remove_28 : decode cX10_remove 28 = .ok (.iconst 1, 1) := by decide +kernel
theorem dX10_remove_29 : decode cX10_remove 29 = .ok (.iadd, 1) := by decide +kernel
theorem dX10_remove_30 : decode cX10_remove 30 = .ok (.aload_n 0, 1) := by decide +kernel
theorem dX10_remove_31 : decode cX10_remove 31 = .ok (.getfield 24, 3) := by decide +kernel
theorem dX10_remove_34 : decode cX10_remove 34 = .ok (.iload_n 1, 1) := by decide +kernel
theorem dX10_remove_35 : decode cX10_remove 35 = .ok (.aload_n 0, 1) := by decide +kernel
theorem dX10_remove_36 : decode cX10_remove 36 = .ok (.getfield 9, 3) := by decide +kernel
theorem dX10_remove_39 : decode cX10_remove 39 = .ok (.iload_n 1, 1) := by decide +kernel
theorem dX10_remove_40 : decode cX10_remove 40 = .ok (.isub, 1) := by decide +kernel
theorem dX10_remove_41 : decode cX10_remove 41 = .ok (.invokestatic 31, 3) := by decide +kernel
theorem dX10_remove_44 : decode cX10_remove 44 = .ok (.aload_n 0, 1) := by decide +kernel
theorem dX10_remove_45 : decode cX10_remove 45 = .ok (.getfield 28, 3) := by decide +kernel
theorem dX10_remove_48 : decode cX10_remove 48 = .ok (.iload_n 1, 1) := by decide +kernel
theorem dX10_remove_49 : decode cX10_remove 49 = .ok (.iconst 1, 1) := by decide +kernel
theorem dX10_remove_50 : decode cX10_remove 50 = .ok (.iadd, 1) := by decide +kernel
theorem dX10_remove_51 : decode cX10_remove 51 = .ok (.aload_n 0, 1) := by decide +kernel
theorem dX10_remove_52 : decode cX10_remove 52 = .ok (.getfield 28, 3) := by decide +kernel
theorem dX10_remove_55 : decode cX10_remove 55 = .ok (.iload_n 1, 1) := by decide +kernel
theorem dX10_remove_56 : decode cX10_remove 56 = .ok (.aload_n 0, 1) := by decide +kernel
theorem dX10_remove_57 : decode cX10_remove 57 = .ok (.getfield 9, 3) := by decide +kernel
theorem dX10_remove_60 : decode cX10_remove 60 = .ok (.iload_n 1, 1) := by decide +kernel
theorem dX10_remove_61 : decode cX10_remove 61 = .ok (.isub, 1) := by decide +kernel
theorem dX10_remove_62 : decode cX10_remove 62 = .ok (.invokestatic 31, 3) := by decide +kernel
theorem dX10_remove_65 : decode cX10_remove 65 = .ok (.return_, 1) := by decide +kernel
theorem dX10_placeOf_0 : decode cX10_placeOf 0 = .ok (.iload_n 1, 1) := by decide +kernel
theorem dX10_placeOf_1 : decode cX10_placeOf 1 = .ok (.ifCond .lt 11, 3) := by decide +kernel
theorem dX10_placeOf_4 : decode cX10_placeOf 4 = .ok (.iload_n 1, 1) := by decide +kernel
theorem dX10_placeOf_5 : decode cX10_placeOf 5 = .ok (.aload_n 0, 1) := by decide +kernel
theorem dX10_placeOf_6 : decode cX10_placeOf 6 = .ok (.getfield 9, 3) := by decide +kernel
theorem dX10_placeOf_9 : decode cX10_placeOf 9 = .ok (.if_icmp .lt 7, 3) := by decide +kernel
theorem dX10_placeOf_12 : decode cX10_placeOf 12 = .ok (.iconst (-1), 1) := by decide +kernel
theorem dX10_placeOf_13 : decode cX10_placeOf 13 = .ok (.goto 9, 3) := by decide +kernel
theorem dX10_placeOf_16 : decode cX10_placeOf 16 = .ok (.aload_n 0, 1) := by decide +kernel
theorem dX10_placeOf_17 : decode cX10_placeOf 17 = .ok (.getfield 24, 3) := by decide +kernel
theorem dX10_placeOf_20 : decode cX10_placeOf 20 = .ok (.iload_n 1, 1) := by decide +kernel
theorem dX10_placeOf_21 : decode cX10_placeOf 21 = .ok (.iaload, 1) := by decide +kernel
theorem dX10_placeOf_22 : decode cX10_placeOf 22 = .ok (.ireturn, 1) := by decide +kernel
theorem dX10_wordsOf_0 : decode cX10_wordsOf 0 = .ok (.iload_n 1, 1) := by decide +kernel
theorem dX10_wordsOf_1 : decode cX10_wordsOf 1 = .ok (.ifCond .lt 11, 3) := by decide +kernel
theorem dX10_wordsOf_4 : decode cX10_wordsOf 4 = .ok (.iload_n 1, 1) := by decide +kernel
theorem dX10_wordsOf_5 : decode cX10_wordsOf 5 = .ok (.aload_n 0, 1) := by decide +kernel
theorem dX10_wordsOf_6 : decode cX10_wordsOf 6 = .ok (.getfield 9, 3) := by decide +kernel
theorem dX10_wordsOf_9 : decode cX10_wordsOf 9 = .ok (.if_icmp .lt 7, 3) := by decide +kernel
theorem dX10_wordsOf_12 : decode cX10_wordsOf 12 = .ok (.iconst 0, 1) := by decide +kernel
theorem dX10_wordsOf_13 : decode cX10_wordsOf 13 = .ok (.goto 9, 3) := by decide +kernel
theorem dX10_wordsOf_16 : decode cX10_wordsOf 16 = .ok (.aload_n 0, 1) := by decide +kernel
theorem dX10_wordsOf_17 : decode cX10_wordsOf 17 = .ok (.getfield 28, 3) := by decide +kernel
theorem dX10_wordsOf_20 : decode cX10_wordsOf 20 = .ok (.iload_n 1, 1) := by decide +kernel
theorem dX10_wordsOf_21 : decode cX10_wordsOf 21 = .ok (.iaload, 1) := by decide +kernel
theorem dX10_wordsOf_22 : decode cX10_wordsOf 22 = .ok (.ireturn, 1) := by decide +kernel
theorem dX10_endOf_0 : decode cX10_endOf 0 = .ok (.iload_n 1, 1) := by decide +kernel
theorem dX10_endOf_1 : decode cX10_endOf 1 = .ok (.ifCond .lt 11, 3) := by decide +kernel
theorem dX10_endOf_4 : decode cX10_endOf 4 = .ok (.iload_n 1, 1) := by decide +kernel
theorem dX10_endOf_5 : decode cX10_endOf 5 = .ok (.aload_n 0, 1) := by decide +kernel
theorem dX10_endOf_6 : decode cX10_endOf 6 = .ok (.getfield 9, 3) := by decide +kernel
theorem dX10_endOf_9 : decode cX10_endOf 9 = .ok (.if_icmp .lt 7, 3) := by decide +kernel
theorem dX10_endOf_12 : decode cX10_endOf 12 = .ok (.iconst (-1), 1) := by decide +kernel
theorem dX10_endOf_13 : decode cX10_endOf 13 = .ok (.goto 16, 3) := by decide +kernel
theorem dX10_endOf_16 : decode cX10_endOf 16 = .ok (.aload_n 0, 1) := by decide +kernel
theorem dX10_endOf_17 : decode cX10_endOf 17 = .ok (.getfield 24, 3) := by decide +kernel
theorem dX10_endOf_20 : decode cX10_endOf 20 = .ok (.iload_n 1, 1) := by decide +kernel
theorem dX10_endOf_21 : decode cX10_endOf 21 = .ok (.iaload, 1) := by decide +kernel
theorem dX10_endOf_22 : decode cX10_endOf 22 = .ok (.aload_n 0, 1) := by decide +kernel
theorem dX10_endOf_23 : decode cX10_endOf 23 = .ok (.getfield 28, 3) := by decide +kernel
theorem dX10_endOf_26 : decode cX10_endOf 26 = .ok (.iload_n 1, 1) := by decide +kernel
theorem dX10_endOf_27 : decode cX10_endOf 27 = .ok (.iaload, 1) := by decide +kernel
theorem dX10_endOf_28 : decode cX10_endOf 28 = .ok (.iadd, 1) := by decide +kernel
theorem dX10_endOf_29 : decode cX10_endOf 29 = .ok (.ireturn, 1) := by decide +kernel
theorem dX10_mostWords_0 : decode cX10_mostWords 0 = .ok (.iconst 0, 1) := by decide +kernel
theorem dX10_mostWords_1 : decode cX10_mostWords 1 = .ok (.istore_n 1, 1) := by decide +kernel
theorem dX10_mostWords_2 : decode cX10_mostWords 2 = .ok (.iconst 0, 1) := by decide +kernel
theorem dX10_mostWords_3 : decode cX10_mostWords 3 = .ok (.istore_n 2, 1) := by decide +kernel
theorem dX10_mostWords_4 : decode cX10_mostWords 4 = .ok (.iload_n 2, 1) := by decide +kernel
theorem dX10_mostWords_5 : decode cX10_mostWords 5 = .ok (.aload_n 0, 1) := by decide +kernel
theorem dX10_mostWords_6 : decode cX10_mostWords 6 = .ok (.getfield 9, 3) := by decide +kernel
theorem dX10_mostWords_9 : decode cX10_mostWords 9 = .ok (.if_icmp .ge 20, 3) := by decide +kernel
theorem dX10_mostWords_12 : decode cX10_mostWords 12 = .ok (.iload_n 1, 1) := by decide +kernel
theorem dX10_mostWords_13 : decode cX10_mostWords 13 = .ok (.aload_n 0, 1) := by decide +kernel
theorem dX10_mostWords_14 : decode cX10_mostWords 14 = .ok (.getfield 28, 3) := by decide +kernel
theorem dX10_mostWords_17 : decode cX10_mostWords 17 = .ok (.iload_n 2, 1) := by decide +kernel
theorem dX10_mostWords_18 : decode cX10_mostWords 18 = .ok (.iaload, 1) := by decide +kernel
theorem dX10_mostWords_19 : decode cX10_mostWords 19 = .ok (.invokestatic 18, 3) := by decide +kernel
theorem dX10_mostWords_22 : decode cX10_mostWords 22 = .ok (.istore_n 1, 1) := by decide +kernel
theorem dX10_mostWords_23 : decode cX10_mostWords 23 = .ok (.iinc 2 1, 3) := by decide +kernel
theorem dX10_mostWords_26 : decode cX10_mostWords 26 = .ok (.goto (-22), 3) := by decide +kernel
theorem dX10_mostWords_29 : decode cX10_mostWords 29 = .ok (.iload_n 1, 1) := by decide +kernel
theorem dX10_mostWords_30 : decode cX10_mostWords 30 = .ok (.ireturn, 1) := by decide +kernel
theorem dX10_looked_0 : decode cX10_looked 0 = .ok (.aload_n 0, 1) := by decide +kernel
theorem dX10_looked_1 : decode cX10_looked 1 = .ok (.getfield 15, 3) := by decide +kernel
theorem dX10_looked_4 : decode cX10_looked 4 = .ok (.ireturn, 1) := by decide +kernel
set_option maxRecDepth 20000 in
theorem ggX10_find_X10_nextFit : GoodIn wsX10_find wsX10_nextFit := goodIn_r _ [6, 7, 8, 9, 10, 11, 12, 13, 1, 30, 31, 32, 33] (by decide +kernel) (by decide +kernel)
set_option maxRecDepth 20000 in
theorem gX10_find_X10_nextFit : GoodIn wsX10_find (wsV RX10 37 RX10 yX10_nextFit wsX10_nextFit) := goodIn_app (goodIn_of _ (by decide +kernel)) ggX10_find_X10_nextFit
set_option maxRecDepth 20000 in
theorem ggX10_find_X10_bestFit : GoodIn wsX10_find wsX10_bestFit := goodIn_r _ [17, 7, 13, 1, 18, 19, 20, 5, 21, 8, 30, 31, 32, 33] (by decide +kernel) (by decide +kernel)
set_option maxRecDepth 20000 in
theorem gX10_find_X10_bestFit : GoodIn wsX10_find (wsV RX10 40 RX10 yX10_bestFit wsX10_bestFit) := goodIn_app (goodIn_of _ (by decide +kernel)) ggX10_find_X10_bestFit
set_option maxRecDepth 20000 in
theorem ggX10_find_X10_greatestFit : GoodIn wsX10_find wsX10_greatestFit := goodIn_r _ [25, 7, 13, 1, 18, 19, 20, 5, 21, 8, 30, 31, 32, 33] (by decide +kernel) (by decide +kernel)
set_option maxRecDepth 20000 in
theorem gX10_find_X10_greatestFit : GoodIn wsX10_find (wsV RX10 44 RX10 yX10_greatestFit wsX10_greatestFit) := goodIn_app (goodIn_of _ (by decide +kernel)) ggX10_find_X10_greatestFit
set_option maxRecDepth 20000 in
theorem ggX10_find_X10_firstFit : GoodIn wsX10_find wsX10_firstFit := goodIn_r _ [29, 7, 1, 13, 8, 30, 31, 32, 33] (by decide +kernel) (by decide +kernel)
set_option maxRecDepth 20000 in
theorem gX10_find_X10_firstFit : GoodIn wsX10_find (wsV RX10 47 RX10 yX10_firstFit wsX10_firstFit) := goodIn_app (goodIn_of _ (by decide +kernel)) ggX10_find_X10_firstFit
theorem dX10_find_0 : decode cX10_find 0 = .ok (.aload_n 0, 1) := by decide +kernel
theorem dX10_find_1 : decode cX10_find 1 = .ok (.iconst 0, 1) := by decide +kernel
theorem dX10_find_2 : decode cX10_find 2 = .ok (.putfield 15, 3) := by decide +kernel
theorem dX10_find_5 : decode cX10_find 5 = .ok (.iload_n 1, 1) := by decide +kernel
theorem dX10_find_6 : decode cX10_find 6 = .ok (.tableswitch 45 1 3 #[26, 33, 39], 26) := by decide +kernel
theorem dX10_find_32 : decode cX10_find 32 = .ok (.aload_n 0, 1) := by decide +kernel
theorem dX10_find_33 : decode cX10_find 33 = .ok (.iload_n 2, 1) := by decide +kernel
theorem dX10_find_34 : decode cX10_find 34 = .ok (.iload_n 3, 1) := by decide +kernel
theorem dX10_find_35 : decode cX10_find 35 = .ok (.invokevirtual 37, 3) := by decide +kernel
theorem dX10_find_38 : decode cX10_find 38 = .ok (.ireturn, 1) := by decide +kernel
theorem dX10_find_39 : decode cX10_find 39 = .ok (.aload_n 0, 1) := by decide +kernel
theorem dX10_find_40 : decode cX10_find 40 = .ok (.iload_n 2, 1) := by decide +kernel
theorem dX10_find_41 : decode cX10_find 41 = .ok (.invokevirtual 40, 3) := by decide +kernel
theorem dX10_find_44 : decode cX10_find 44 = .ok (.ireturn, 1) := by decide +kernel
theorem dX10_find_45 : decode cX10_find 45 = .ok (.aload_n 0, 1) := by decide +kernel
theorem dX10_find_46 : decode cX10_find 46 = .ok (.iload_n 2, 1) := by decide +kernel
theorem dX10_find_47 : decode cX10_find 47 = .ok (.invokevirtual 44, 3) := by decide +kernel
theorem dX10_find_50 : decode cX10_find 50 = .ok (.ireturn, 1) := by decide +kernel
theorem dX10_find_51 : decode cX10_find 51 = .ok (.aload_n 0, 1) := by decide +kernel
theorem dX10_find_52 : decode cX10_find 52 = .ok (.iload_n 2, 1) := by decide +kernel
theorem dX10_find_53 : decode cX10_find 53 = .ok (.invokevirtual 47, 3) := by decide +kernel
theorem dX10_find_56 : decode cX10_find 56 = .ok (.ireturn, 1) := by decide +kernel
theorem dX10_firstFit_0 : decode cX10_firstFit 0 = .ok (.iconst 0, 1) := by decide +kernel
theorem dX10_firstFit_1 : decode cX10_firstFit 1 = .ok (.istore_n 2, 1) := by decide +kernel
theorem dX10_firstFit_2 : decode cX10_firstFit 2 = .ok (.iload_n 2, 1) := by decide +kernel
theorem dX10_firstFit_3 : decode cX10_firstFit 3 = .ok (.aload_n 0, 1) := by decide +kernel
theorem dX10_firstFit_4 : decode cX10_firstFit 4 = .ok (.getfield 9, 3) := by decide +kernel
theorem dX10_firstFit_7 : decode cX10_firstFit 7 = .ok (.if_icmp .ge 36, 3) := by decide +kernel
theorem dX10_firstFit_10 : decode cX10_firstFit 10 = .ok (.aload_n 0, 1) := by decide +kernel
theorem dX10_firstFit_11 : decode cX10_firstFit 11 = .ok (.dup, 1) := by decide +kernel
theorem dX10_firstFit_12 : decode cX10_firstFit 12 = .ok (.getfield 15, 3) := by decide +kernel
theorem dX10_firstFit_15 : decode cX10_firstFit 15 = .ok (.iconst 1, 1) := by decide +kernel
theorem dX10_firstFit_16 : decode cX10_firstFit 16 = .ok (.iadd, 1) := by decide +kernel
theorem dX10_firstFit_17 : decode cX10_firstFit 17 = .ok (.putfield 15, 3) := by decide +kernel
theorem dX10_firstFit_20 : decode cX10_firstFit 20 = .ok (.aload_n 0, 1) := by decide +kernel
theorem dX10_firstFit_21 : decode cX10_firstFit 21 = .ok (.getfield 28, 3) := by decide +kernel
theorem dX10_firstFit_24 : decode cX10_firstFit 24 = .ok (.iload_n 2, 1) := by decide +kernel
theorem dX10_firstFit_25 : decode cX10_firstFit 25 = .ok (.iaload, 1) := by decide +kernel
theorem dX10_firstFit_26 : decode cX10_firstFit 26 = .ok (.iload_n 1, 1) := by decide +kernel
theorem dX10_firstFit_27 : decode cX10_firstFit 27 = .ok (.if_icmp .lt 10, 3) := by decide +kernel
theorem dX10_firstFit_30 : decode cX10_firstFit 30 = .ok (.aload_n 0, 1) := by decide +kernel
theorem dX10_firstFit_31 : decode cX10_firstFit 31 = .ok (.getfield 24, 3) := by decide +kernel
theorem dX10_firstFit_34 : decode cX10_firstFit 34 = .ok (.iload_n 2, 1) := by decide +kernel
theorem dX10_firstFit_35 : decode cX10_firstFit 35 = .ok (.iaload, 1) := by decide +kernel
theorem dX10_firstFit_36 : decode cX10_firstFit 36 = .ok (.ireturn, 1) := by decide +kernel
theorem dX10_firstFit_37 : decode cX10_firstFit 37 = .ok (.iinc 2 1, 3) := by decide +kernel
theorem dX10_firstFit_40 : decode cX10_firstFit 40 = .ok (.goto (-38), 3) := by decide +kernel
theorem dX10_firstFit_43 : decode cX10_firstFit 43 = .ok (.iconst (-1), 1) := by decide +kernel
theorem dX10_firstFit_44 : decode cX10_firstFit 44 = .ok (.ireturn, 1) := by decide +kernel
theorem dX10_nextFit_0 : decode cX10_nextFit 0 = .ok (.iconst 0, 1) := by decide +kernel
theorem dX10_nextFit_1 : decode cX10_nextFit 1 = .ok (.istore_n 3, 1) := by decide +kernel
theorem dX10_nextFit_2 : decode cX10_nextFit 2 = .ok (.iload_n 3, 1) := by decide +kernel
theorem dX10_nextFit_3 : decode cX10_nextFit 3 = .ok (.aload_n 0, 1) := by decide +kernel
theorem dX10_nextFit_4 : decode cX10_nextFit 4 = .ok (.getfield 9, 3) := by decide +kernel
theorem dX10_nextFit_7 : decode cX10_nextFit 7 = .ok (.if_icmp .ge 63, 3) := by decide +kernel
theorem dX10_nextFit_10 : decode cX10_nextFit 10 = .ok (.aload_n 0, 1) := by decide +kernel
theorem dX10_nextFit_11 : decode cX10_nextFit 11 = .ok (.getfield 24, 3) := by decide +kernel
theorem dX10_nextFit_14 : decode cX10_nextFit 14 = .ok (.iload_n 3, 1) := by decide +kernel
theorem dX10_nextFit_15 : decode cX10_nextFit 15 = .ok (.iaload, 1) := by decide +kernel
theorem dX10_nextFit_16 : decode cX10_nextFit 16 = .ok (.iload_n 2, 1) := by decide +kernel
theorem dX10_nextFit_17 : decode cX10_nextFit 17 = .ok (.invokestatic 18, 3) := by decide +kernel
theorem dX10_nextFit_20 : decode cX10_nextFit 20 = .ok (.istore 4, 2) := by decide +kernel
theorem dX10_nextFit_22 : decode cX10_nextFit 22 = .ok (.aload_n 0, 1) := by decide +kernel
theorem dX10_nextFit_23 : decode cX10_nextFit 23 = .ok (.getfield 24, 3) := by decide +kernel
theorem dX10_nextFit_26 : decode cX10_nextFit 26 = .ok (.iload_n 3, 1) := by decide +kernel
theorem dX10_nextFit_27 : decode cX10_nextFit 27 = .ok (.iaload, 1) := by decide +kernel
theorem dX10_nextFit_28 : decode cX10_nextFit 28 = .ok (.aload_n 0, 1) := by decide +kernel
theorem dX10_nextFit_29 : decode cX10_nextFit 29 = .ok (.getfield 28, 3) := by decide +kernel
theorem dX10_nextFit_32 : decode cX10_nextFit 32 = .ok (.iload_n 3, 1) := by decide +kernel
theorem dX10_nextFit_33 : decode cX10_nextFit 33 = .ok (.iaload, 1) := by decide +kernel
theorem dX10_nextFit_34 : decode cX10_nextFit 34 = .ok (.iadd, 1) := by decide +kernel
theorem dX10_nextFit_35 : decode cX10_nextFit 35 = .ok (.iload 4, 2) := by decide +kernel
theorem dX10_nextFit_37 : decode cX10_nextFit 37 = .ok (.isub, 1) := by decide +kernel
theorem dX10_nextFit_38 : decode cX10_nextFit 38 = .ok (.istore 5, 2) := by decide +kernel
theorem dX10_nextFit_40 : decode cX10_nextFit 40 = .ok (.iload 5, 2) := by decide +kernel
theorem dX10_nextFit_42 : decode cX10_nextFit 42 = .ok (.ifCond .le 22, 3) := by decide +kernel
theorem dX10_nextFit_45 : decode cX10_nextFit 45 = .ok (.aload_n 0, 1) := by decide +kernel
theorem dX10_nextFit_46 : decode cX10_nextFit 46 = .ok (.dup, 1) := by decide +kernel
theorem dX10_nextFit_47 : decode cX10_nextFit 47 = .ok (.getfield 15, 3) := by decide +kernel
theorem dX10_nextFit_50 : decode cX10_nextFit 50 = .ok (.iconst 1, 1) := by decide +kernel
theorem dX10_nextFit_51 : decode cX10_nextFit 51 = .ok (.iadd, 1) := by decide +kernel
theorem dX10_nextFit_52 : decode cX10_nextFit 52 = .ok (.putfield 15, 3) := by decide +kernel
theorem dX10_nextFit_55 : decode cX10_nextFit 55 = .ok (.iload 5, 2) := by decide +kernel
theorem dX10_nextFit_57 : decode cX10_nextFit 57 = .ok (.iload_n 1, 1) := by decide +kernel
theorem dX10_nextFit_58 : decode cX10_nextFit 58 = .ok (.if_icmp .lt 6, 3) := by decide +kernel
theorem dX10_nextFit_61 : decode cX10_nextFit 61 = .ok (.iload 4, 2) := by decide +kernel
theorem dX10_nextFit_63 : decode cX10_nextFit 63 = .ok (.ireturn, 1) := by decide +kernel
theorem dX10_nextFit_64 : decode cX10_nextFit 64 = .ok (.iinc 3 1, 3) := by decide +kernel
theorem dX10_nextFit_67 : decode cX10_nextFit 67 = .ok (.goto (-65), 3) := by decide +kernel
theorem dX10_nextFit_70 : decode cX10_nextFit 70 = .ok (.iconst 0, 1) := by decide +kernel
theorem dX10_nextFit_71 : decode cX10_nextFit 71 = .ok (.istore_n 3, 1) := by decide +kernel
theorem dX10_nextFit_72 : decode cX10_nextFit 72 = .ok (.iload_n 3, 1) := by decide +kernel
theorem dX10_nextFit_73 : decode cX10_nextFit 73 = .ok (.aload_n 0, 1) := by decide +kernel
theorem dX10_nextFit_74 : decode cX10_nextFit 74 = .ok (.getfield 9, 3) := by decide +kernel
theorem dX10_nextFit_77 : decode cX10_nextFit 77 = .ok (.if_icmp .ge 46, 3) := by decide +kernel
theorem dX10_nextFit_80 : decode cX10_nextFit 80 = .ok (.aload_n 0, 1) := by decide +kernel
theorem dX10_nextFit_81 : decode cX10_nextFit 81 = .ok (.getfield 24, 3) := by decide +kernel
theorem dX10_nextFit_84 : decode cX10_nextFit 84 = .ok (.iload_n 3, 1) := by decide +kernel
theorem dX10_nextFit_85 : decode cX10_nextFit 85 = .ok (.iaload, 1) := by decide +kernel
theorem dX10_nextFit_86 : decode cX10_nextFit 86 = .ok (.iload_n 2, 1) := by decide +kernel
theorem dX10_nextFit_87 : decode cX10_nextFit 87 = .ok (.if_icmp .ge 36, 3) := by decide +kernel
theorem dX10_nextFit_90 : decode cX10_nextFit 90 = .ok (.aload_n 0, 1) := by decide +kernel
theorem dX10_nextFit_91 : decode cX10_nextFit 91 = .ok (.dup, 1) := by decide +kernel
theorem dX10_nextFit_92 : decode cX10_nextFit 92 = .ok (.getfield 15, 3) := by decide +kernel
theorem dX10_nextFit_95 : decode cX10_nextFit 95 = .ok (.iconst 1, 1) := by decide +kernel
theorem dX10_nextFit_96 : decode cX10_nextFit 96 = .ok (.iadd, 1) := by decide +kernel
theorem dX10_nextFit_97 : decode cX10_nextFit 97 = .ok (.putfield 15, 3) := by decide +kernel
theorem dX10_nextFit_100 : decode cX10_nextFit 100 = .ok (.aload_n 0, 1) := by decide +kernel
theorem dX10_nextFit_101 : decode cX10_nextFit 101 = .ok (.getfield 28, 3) := by decide +kernel
theorem dX10_nextFit_104 : decode cX10_nextFit 104 = .ok (.iload_n 3, 1) := by decide +kernel
theorem dX10_nextFit_105 : decode cX10_nextFit 105 = .ok (.iaload, 1) := by decide +kernel
theorem dX10_nextFit_106 : decode cX10_nextFit 106 = .ok (.iload_n 1, 1) := by decide +kernel
theorem dX10_nextFit_107 : decode cX10_nextFit 107 = .ok (.if_icmp .lt 10, 3) := by decide +kernel
theorem dX10_nextFit_110 : decode cX10_nextFit 110 = .ok (.aload_n 0, 1) := by decide +kernel
theorem dX10_nextFit_111 : decode cX10_nextFit 111 = .ok (.getfield 24, 3) := by decide +kernel
theorem dX10_nextFit_114 : decode cX10_nextFit 114 = .ok (.iload_n 3, 1) := by decide +kernel
theorem dX10_nextFit_115 : decode cX10_nextFit 115 = .ok (.iaload, 1) := by decide +kernel
theorem dX10_nextFit_116 : decode cX10_nextFit 116 = .ok (.ireturn, 1) := by decide +kernel
theorem dX10_nextFit_117 : decode cX10_nextFit 117 = .ok (.iinc 3 1, 3) := by decide +kernel
theorem dX10_nextFit_120 : decode cX10_nextFit 120 = .ok (.goto (-48), 3) := by decide +kernel
theorem dX10_nextFit_123 : decode cX10_nextFit 123 = .ok (.iconst (-1), 1) := by decide +kernel
theorem dX10_nextFit_124 : decode cX10_nextFit 124 = .ok (.ireturn, 1) := by decide +kernel
set_option maxRecDepth 20000 in
theorem ggX10_bestFit_X10_placeOf : GoodIn wsX10_bestFit wsX10_placeOf := goodIn_r _ [8, 1, 9, 10, 11, 12, 13] (by decide +kernel) (by decide +kernel)
set_option maxRecDepth 20000 in
theorem gX10_bestFit_X10_placeOf : GoodIn wsX10_bestFit (wsV RX10 50 RX10 yX10_placeOf wsX10_placeOf) := goodIn_app (goodIn_of _ (by decide +kernel)) ggX10_bestFit_X10_placeOf
theorem dX10_bestFit_0 : decode cX10_bestFit 0 = .ok (.iconst (-1), 1) := by decide +kernel
theorem dX10_bestFit_1 : decode cX10_bestFit 1 = .ok (.istore_n 2, 1) := by decide +kernel
theorem dX10_bestFit_2 : decode cX10_bestFit 2 = .ok (.iconst 0, 1) := by decide +kernel
theorem dX10_bestFit_3 : decode cX10_bestFit 3 = .ok (.istore_n 3, 1) := by decide +kernel
theorem dX10_bestFit_4 : decode cX10_bestFit 4 = .ok (.iload_n 3, 1) := by decide +kernel
theorem dX10_bestFit_5 : decode cX10_bestFit 5 = .ok (.aload_n 0, 1) := by decide +kernel
theorem dX10_bestFit_6 : decode cX10_bestFit 6 = .ok (.getfield 9, 3) := by decide +kernel
theorem dX10_bestFit_9 : decode cX10_bestFit 9 = .ok (.if_icmp .ge 41, 3) := by decide +kernel
theorem dX10_bestFit_12 : decode cX10_bestFit 12 = .ok (.aload_n 0, 1) := by decide +kernel
theorem dX10_bestFit_13 : decode cX10_bestFit 13 = .ok (.getfield 28, 3) := by decide +kernel
theorem dX10_bestFit_16 : decode cX10_bestFit 16 = .ok (.iload_n 3, 1) := by decide +kernel
theorem dX10_bestFit_17 : decode cX10_bestFit 17 = .ok (.iaload, 1) := by decide +kernel
theorem dX10_bestFit_18 : decode cX10_bestFit 18 = .ok (.iload_n 1, 1) := by decide +kernel
theorem dX10_bestFit_19 : decode cX10_bestFit 19 = .ok (.if_icmp .lt 25, 3) := by decide +kernel
theorem dX10_bestFit_22 : decode cX10_bestFit 22 = .ok (.iload_n 2, 1) := by decide +kernel
theorem dX10_bestFit_23 : decode cX10_bestFit 23 = .ok (.iconst (-1), 1) := by decide +kernel
theorem dX10_bestFit_24 : decode cX10_bestFit 24 = .ok (.if_icmp .eq 18, 3) := by decide +kernel
theorem dX10_bestFit_27 : decode cX10_bestFit 27 = .ok (.aload_n 0, 1) := by decide +kernel
theorem dX10_bestFit_28 : decode cX10_bestFit 28 = .ok (.getfield 28, 3) := by decide +kernel
theorem dX10_bestFit_31 : decode cX10_bestFit 31 = .ok (.iload_n 3, 1) := by decide +kernel
theorem dX10_bestFit_32 : decode cX10_bestFit 32 = .ok (.iaload, 1) := by decide +kernel
theorem dX10_bestFit_33 : decode cX10_bestFit 33 = .ok (.aload_n 0, 1) := by decide +kernel
theorem dX10_bestFit_34 : decode cX10_bestFit 34 = .ok (.getfield 28, 3) := by decide +kernel
theorem dX10_bestFit_37 : decode cX10_bestFit 37 = .ok (.iload_n 2, 1) := by decide +kernel
theorem dX10_bestFit_38 : decode cX10_bestFit 38 = .ok (.iaload, 1) := by decide +kernel
theorem dX10_bestFit_39 : decode cX10_bestFit 39 = .ok (.if_icmp .ge 5, 3) := by decide +kernel
theorem dX10_bestFit_42 : decode cX10_bestFit 42 = .ok (.iload_n 3, 1) := by decide +kernel
theorem dX10_bestFit_43 : decode cX10_bestFit 43 = .ok (.istore_n 2, 1) := by decide +kernel
theorem dX10_bestFit_44 : decode cX10_bestFit 44 = .ok (.iinc 3 1, 3) := by decide +kernel
theorem dX10_bestFit_47 : decode cX10_bestFit 47 = .ok (.goto (-43), 3) := by decide +kernel
theorem dX10_bestFit_50 : decode cX10_bestFit 50 = .ok (.aload_n 0, 1) := by decide +kernel
theorem dX10_bestFit_51 : decode cX10_bestFit 51 = .ok (.aload_n 0, 1) := by decide +kernel
theorem dX10_bestFit_52 : decode cX10_bestFit 52 = .ok (.getfield 9, 3) := by decide +kernel
theorem dX10_bestFit_55 : decode cX10_bestFit 55 = .ok (.putfield 15, 3) := by decide +kernel
theorem dX10_bestFit_58 : decode cX10_bestFit 58 = .ok (.aload_n 0, 1) := by decide +kernel
theorem dX10_bestFit_59 : decode cX10_bestFit 59 = .ok (.iload_n 2, 1) := by decide +kernel
theorem dX10_bestFit_60 : decode cX10_bestFit 60 = .ok (.invokevirtual 50, 3) := by decide +kernel
theorem dX10_bestFit_63 : decode cX10_bestFit 63 = .ok (.ireturn, 1) := by decide +kernel
set_option maxRecDepth 20000 in
theorem ggX10_greatestFit_X10_placeOf : GoodIn wsX10_greatestFit wsX10_placeOf := goodIn_r _ [8, 1, 9, 10, 11, 12, 13] (by decide +kernel) (by decide +kernel)
set_option maxRecDepth 20000 in
theorem gX10_greatestFit_X10_placeOf : GoodIn wsX10_greatestFit (wsV RX10 50 RX10 yX10_placeOf wsX10_placeOf) := goodIn_app (goodIn_of _ (by decide +kernel)) ggX10_greatestFit_X10_placeOf
theorem dX10_greatestFit_0 : decode cX10_greatestFit 0 = .ok (.iconst (-1), 1) := by decide +kernel
theorem dX10_greatestFit_1 : decode cX10_greatestFit 1 = .ok (.istore_n 2, 1) := by decide +kernel
theorem dX10_greatestFit_2 : decode cX10_greatestFit 2 = .ok (.iconst 0, 1) := by decide +kernel
theorem dX10_greatestFit_3 : decode cX10_greatestFit 3 = .ok (.istore_n 3, 1) := by decide +kernel
theorem dX10_greatestFit_4 : decode cX10_greatestFit 4 = .ok (.iload_n 3, 1) := by decide +kernel
theorem dX10_greatestFit_5 : decode cX10_greatestFit 5 = .ok (.aload_n 0, 1) := by decide +kernel
theorem dX10_greatestFit_6 : decode cX10_greatestFit 6 = .ok (.getfield 9, 3) := by decide +kernel
theorem dX10_greatestFit_9 : decode cX10_greatestFit 9 = .ok (.if_icmp .ge 41, 3) := by decide +kernel
theorem dX10_greatestFit_12 : decode cX10_greatestFit 12 = .ok (.aload_n 0, 1) := by decide +kernel
theorem dX10_greatestFit_13 : decode cX10_greatestFit 13 = .ok (.getfield 28, 3) := by decide +kernel
theorem dX10_greatestFit_16 : decode cX10_greatestFit 16 = .ok (.iload_n 3, 1) := by decide +kernel
theorem dX10_greatestFit_17 : decode cX10_greatestFit 17 = .ok (.iaload, 1) := by decide +kernel
theorem dX10_greatestFit_18 : decode cX10_greatestFit 18 = .ok (.iload_n 1, 1) := by decide +kernel
theorem dX10_greatestFit_19 : decode cX10_greatestFit 19 = .ok (.if_icmp .lt 25, 3) := by decide +kernel
theorem dX10_greatestFit_22 : decode cX10_greatestFit 22 = .ok (.iload_n 2, 1) := by decide +kernel
theorem dX10_greatestFit_23 : decode cX10_greatestFit 23 = .ok (.iconst (-1), 1) := by decide +kernel
theorem dX10_greatestFit_24 : decode cX10_greatestFit 24 = .ok (.if_icmp .eq 18, 3) := by decide +kernel
theorem dX10_greatestFit_27 : decode cX10_greatestFit 27 = .ok (.aload_n 0, 1) := by decide +kernel
theorem dX10_greatestFit_28 : decode cX10_greatestFit 28 = .ok (.getfield 28, 3) := by decide +kernel
theorem dX10_greatestFit_31 : decode cX10_greatestFit 31 = .ok (.iload_n 3, 1) := by decide +kernel
theorem dX10_greatestFit_32 : decode cX10_greatestFit 32 = .ok (.iaload, 1) := by decide +kernel
theorem dX10_greatestFit_33 : decode cX10_greatestFit 33 = .ok (.aload_n 0, 1) := by decide +kernel
theorem dX10_greatestFit_34 : decode cX10_greatestFit 34 = .ok (.getfield 28, 3) := by decide +kernel
theorem dX10_greatestFit_37 : decode cX10_greatestFit 37 = .ok (.iload_n 2, 1) := by decide +kernel
theorem dX10_greatestFit_38 : decode cX10_greatestFit 38 = .ok (.iaload, 1) := by decide +kernel
theorem dX10_greatestFit_39 : decode cX10_greatestFit 39 = .ok (.if_icmp .le 5, 3) := by decide +kernel
theorem dX10_greatestFit_42 : decode cX10_greatestFit 42 = .ok (.iload_n 3, 1) := by decide +kernel
theorem dX10_greatestFit_43 : decode cX10_greatestFit 43 = .ok (.istore_n 2, 1) := by decide +kernel
theorem dX10_greatestFit_44 : decode cX10_greatestFit 44 = .ok (.iinc 3 1, 3) := by decide +kernel
theorem dX10_greatestFit_47 : decode cX10_greatestFit 47 = .ok (.goto (-43), 3) := by decide +kernel
theorem dX10_greatestFit_50 : decode cX10_greatestFit 50 = .ok (.aload_n 0, 1) := by decide +kernel
theorem dX10_greatestFit_51 : decode cX10_greatestFit 51 = .ok (.aload_n 0, 1) := by decide +kernel
theorem dX10_greatestFit_52 : decode cX10_greatestFit 52 = .ok (.getfield 9, 3) := by decide +kernel
theorem dX10_greatestFit_55 : decode cX10_greatestFit 55 = .ok (.putfield 15, 3) := by decide +kernel
theorem dX10_greatestFit_58 : decode cX10_greatestFit 58 = .ok (.aload_n 0, 1) := by decide +kernel
theorem dX10_greatestFit_59 : decode cX10_greatestFit 59 = .ok (.iload_n 2, 1) := by decide +kernel
theorem dX10_greatestFit_60 : decode cX10_greatestFit 60 = .ok (.invokevirtual 50, 3) := by decide +kernel
theorem dX10_greatestFit_63 : decode cX10_greatestFit 63 = .ok (.ireturn, 1) := by decide +kernel
theorem dX11_powerFrom_0 : decode cX11_powerFrom 0 = .ok (.iconst 1, 1) := by decide +kernel
theorem dX11_powerFrom_1 : decode cX11_powerFrom 1 = .ok (.istore_n 1, 1) := by decide +kernel
theorem dX11_powerFrom_2 : decode cX11_powerFrom 2 = .ok (.iload_n 1, 1) := by decide +kernel
theorem dX11_powerFrom_3 : decode cX11_powerFrom 3 = .ok (.sipush 1024, 3) := by decide +kernel
theorem dX11_powerFrom_6 : decode cX11_powerFrom 6 = .ok (.if_icmp .ge 17, 3) := by decide +kernel
theorem dX11_powerFrom_9 : decode cX11_powerFrom 9 = .ok (.iload_n 1, 1) := by decide +kernel
theorem dX11_powerFrom_10 : decode cX11_powerFrom 10 = .ok (.iload_n 0, 1) := by decide +kernel
theorem dX11_powerFrom_11 : decode cX11_powerFrom 11 = .ok (.if_icmp .lt 5, 3) := by decide +kernel
theorem dX11_powerFrom_14 : decode cX11_powerFrom 14 = .ok (.iload_n 1, 1) := by decide +kernel
theorem dX11_powerFrom_15 : decode cX11_powerFrom 15 = .ok (.ireturn, 1) := by decide +kernel
theorem dX11_powerFrom_16 : decode cX11_powerFrom 16 = .ok (.iload_n 1, 1) := by decide +kernel
theorem dX11_powerFrom_17 : decode cX11_powerFrom 17 = .ok (.iload_n 1, 1) := by decide +kernel
theorem dX11_powerFrom_18 : decode cX11_powerFrom 18 = .ok (.iadd, 1) := by decide +kernel
theorem dX11_powerFrom_19 : decode cX11_powerFrom 19 = .ok (.istore_n 1, 1) := by decide +kernel
theorem dX11_powerFrom_20 : decode cX11_powerFrom 20 = .ok (.goto (-18), 3) := by decide +kernel
theorem dX11_powerFrom_23 : decode cX11_powerFrom 23 = .ok (.sipush 1024, 3) := by decide +kernel
theorem dX11_powerFrom_26 : decode cX11_powerFrom 26 = .ok (.ireturn, 1) := by decide +kernel
theorem dJ6_bitCount_0f7a4_0 : decode cJ6_bitCount_0f7a4 0 = .ok (.iload_n 0, 1) := by decide +kernel
theorem dJ6_bitCount_0f7a4_1 : decode cJ6_bitCount_0f7a4 1 = .ok (.iload_n 0, 1) := by decide +kernel
theorem dJ6_bitCount_0f7a4_2 : decode cJ6_bitCount_0f7a4 2 = .ok (.iconst 1, 1) := by decide +kernel
theorem dJ6_bitCount_0f7a4_3 : decode cJ6_bitCount_0f7a4 3 = .ok (.iushr, 1) := by decide +kernel
theorem dJ6_bitCount_0f7a4_4 : decode cJ6_bitCount_0f7a4 4 = .ok (.ldc_w 265, 3) := by decide +kernel
theorem dJ6_bitCount_0f7a4_7 : decode cJ6_bitCount_0f7a4 7 = .ok (.iand, 1) := by decide +kernel
theorem dJ6_bitCount_0f7a4_8 : decode cJ6_bitCount_0f7a4 8 = .ok (.isub, 1) := by decide +kernel
theorem dJ6_bitCount_0f7a4_9 : decode cJ6_bitCount_0f7a4 9 = .ok (.istore_n 0, 1) := by decide +kernel
theorem dJ6_bitCount_0f7a4_10 : decode cJ6_bitCount_0f7a4 10 = .ok (.iload_n 0, 1) := by decide +kernel
theorem dJ6_bitCount_0f7a4_11 : decode cJ6_bitCount_0f7a4 11 = .ok (.ldc_w 266, 3) := by decide +kernel
theorem dJ6_bitCount_0f7a4_14 : decode cJ6_bitCount_0f7a4 14 = .ok (.iand, 1) := by decide +kernel
theorem dJ6_bitCount_0f7a4_15 : decode cJ6_bitCount_0f7a4 15 = .ok (.iload_n 0, 1) := by decide +kernel
theorem dJ6_bitCount_0f7a4_16 : decode cJ6_bitCount_0f7a4 16 = .ok (.iconst 2, 1) := by decide +kernel
theorem dJ6_bitCount_0f7a4_17 : decode cJ6_bitCount_0f7a4 17 = .ok (.iushr, 1) := by decide +kernel
theorem dJ6_bitCount_0f7a4_18 : decode cJ6_bitCount_0f7a4 18 = .ok (.ldc_w 266, 3) := by decide +kernel
theorem dJ6_bitCount_0f7a4_21 : decode cJ6_bitCount_0f7a4 21 = .ok (.iand, 1) := by decide +kernel
theorem dJ6_bitCount_0f7a4_22 : decode cJ6_bitCount_0f7a4 22 = .ok (.iadd, 1) := by decide +kernel
theorem dJ6_bitCount_0f7a4_23 : decode cJ6_bitCount_0f7a4 23 = .ok (.istore_n 0, 1) := by decide +kernel
theorem dJ6_bitCount_0f7a4_24 : decode cJ6_bitCount_0f7a4 24 = .ok (.iload_n 0, 1) := by decide +kernel
theorem dJ6_bitCount_0f7a4_25 : decode cJ6_bitCount_0f7a4 25 = .ok (.iload_n 0, 1) := by decide +kernel
theorem dJ6_bitCount_0f7a4_26 : decode cJ6_bitCount_0f7a4 26 = .ok (.iconst 4, 1) := by decide +kernel
theorem dJ6_bitCount_0f7a4_27 : decode cJ6_bitCount_0f7a4 27 = .ok (.iushr, 1) := by decide +kernel
theorem dJ6_bitCount_0f7a4_28 : decode cJ6_bitCount_0f7a4 28 = .ok (.iadd, 1) := by decide +kernel
theorem dJ6_bitCount_0f7a4_29 : decode cJ6_bitCount_0f7a4 29 = .ok (.ldc_w 267, 3) := by decide +kernel
theorem dJ6_bitCount_0f7a4_32 : decode cJ6_bitCount_0f7a4 32 = .ok (.iand, 1) := by decide +kernel
theorem dJ6_bitCount_0f7a4_33 : decode cJ6_bitCount_0f7a4 33 = .ok (.istore_n 0, 1) := by decide +kernel
theorem dJ6_bitCount_0f7a4_34 : decode cJ6_bitCount_0f7a4 34 = .ok (.iload_n 0, 1) := by decide +kernel
theorem dJ6_bitCount_0f7a4_35 : decode cJ6_bitCount_0f7a4 35 = .ok (.iload_n 0, 1) := by decide +kernel
theorem dJ6_bitCount_0f7a4_36 : decode cJ6_bitCount_0f7a4 36 = .ok (.bipush 8, 2) := by decide +kernel
theorem dJ6_bitCount_0f7a4_38 : decode cJ6_bitCount_0f7a4 38 = .ok (.iushr, 1) := by decide +kernel
theorem dJ6_bitCount_0f7a4_39 : decode cJ6_bitCount_0f7a4 39 = .ok (.iadd, 1) := by decide +kernel
theorem dJ6_bitCount_0f7a4_40 : decode cJ6_bitCount_0f7a4 40 = .ok (.istore_n 0, 1) := by decide +kernel
theorem dJ6_bitCount_0f7a4_41 : decode cJ6_bitCount_0f7a4 41 = .ok (.iload_n 0, 1) := by decide +kernel
theorem dJ6_bitCount_0f7a4_42 : decode cJ6_bitCount_0f7a4 42 = .ok (.iload_n 0, 1) := by decide +kernel
theorem dJ6_bitCount_0f7a4_43 : decode cJ6_bitCount_0f7a4 43 = .ok (.bipush 16, 2) := by decide +kernel
theorem dJ6_bitCount_0f7a4_45 : decode cJ6_bitCount_0f7a4 45 = .ok (.iushr, 1) := by decide +kernel
theorem dJ6_bitCount_0f7a4_46 : decode cJ6_bitCount_0f7a4 46 = .ok (.iadd, 1) := by decide +kernel
theorem dJ6_bitCount_0f7a4_47 : decode cJ6_bitCount_0f7a4 47 = .ok (.istore_n 0, 1) := by decide +kernel
theorem dJ6_bitCount_0f7a4_48 : decode cJ6_bitCount_0f7a4 48 = .ok (.iload_n 0, 1) := by decide +kernel
theorem dJ6_bitCount_0f7a4_49 : decode cJ6_bitCount_0f7a4 49 = .ok (.bipush 63, 2) := by decide +kernel
theorem dJ6_bitCount_0f7a4_51 : decode cJ6_bitCount_0f7a4 51 = .ok (.iand, 1) := by decide +kernel
theorem dJ6_bitCount_0f7a4_52 : decode cJ6_bitCount_0f7a4 52 = .ok (.ireturn, 1) := by decide +kernel
theorem dJ7_fill_53178_0 : decode cJ7_fill_53178 0 = .ok (.iconst 0, 1) := by decide +kernel
theorem dJ7_fill_53178_1 : decode cJ7_fill_53178 1 = .ok (.istore_n 2, 1) := by decide +kernel
theorem dJ7_fill_53178_2 : decode cJ7_fill_53178 2 = .ok (.aload_n 0, 1) := by decide +kernel
theorem dJ7_fill_53178_3 : decode cJ7_fill_53178 3 = .ok (.arraylength, 1) := by decide +kernel
theorem dJ7_fill_53178_4 : decode cJ7_fill_53178 4 = .ok (.istore_n 3, 1) := by decide +kernel
theorem dJ7_fill_53178_5 : decode cJ7_fill_53178 5 = .ok (.iload_n 2, 1) := by decide +kernel
theorem dJ7_fill_53178_6 : decode cJ7_fill_53178 6 = .ok (.iload_n 3, 1) := by decide +kernel
theorem dJ7_fill_53178_7 : decode cJ7_fill_53178 7 = .ok (.if_icmp .ge 13, 3) := by decide +kernel
theorem dJ7_fill_53178_10 : decode cJ7_fill_53178 10 = .ok (.aload_n 0, 1) := by decide +kernel
theorem dJ7_fill_53178_11 : decode cJ7_fill_53178 11 = .ok (.iload_n 2, 1) := by decide +kernel
theorem dJ7_fill_53178_12 : decode cJ7_fill_53178 12 = .ok (.iload_n 1, 1) := by decide +kernel
theorem dJ7_fill_53178_13 : decode cJ7_fill_53178 13 = .ok (.iastore, 1) := by decide +kernel
theorem dJ7_fill_53178_14 : decode cJ7_fill_53178 14 = .ok (.iinc 2 1, 3) := by decide +kernel
theorem dJ7_fill_53178_17 : decode cJ7_fill_53178 17 = .ok (.goto (-12), 3) := by decide +kernel
theorem dJ7_fill_53178_20 : decode cJ7_fill_53178 20 = .ok (.return_, 1) := by decide +kernel
abbrev vwCl : List vw_C := [(RX0, TX0, 3), (RX2, TX2, 2), (RX3, TX3, 3), (RX4, TX4, 2), (RX5, TX5, 4), (RX6, TX6, 2), (RX7, TX7, 10), (RX8, TX8, 9), (RX9, TX9, 2), (RX10, TX10, 4), (RX11, TX11, 5), (RX12, TX12, 36)]
