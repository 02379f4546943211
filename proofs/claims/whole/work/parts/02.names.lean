/-! ===== BEGIN words of one list among another's, by their places ===== -/
theorem goodIn_r {big : List Cond} (ws : List Cond) (ps : List Nat) (hp : ws = ps.filterMap (fun i => big[i]?)) (h : ws.all goodWord = true) : GoodIn big ws := by
  intro w hw
  have h1 := List.all_eq_true.mp h w hw
  rw [hp] at hw
  obtain ⟨i, -, hi⟩ := List.mem_filterMap.mp hw
  have hm : w ∈ big := by first | exact List.mem_of_getElem? hi | exact List.getElem?_mem hi
  exact ⟨hm, good_of_word h1⟩
theorem goodIn_app {big a b : List Cond} (ha : GoodIn big a) (hb : GoodIn big b) : GoodIn big (a ++ b) := fun w h => (List.mem_append.mp h).elim (ha w) (hb w)
theorem goodIn_ca {big a b : List Cond} {c : Cond} (ha : GoodIn big (c :: a)) (hb : GoodIn big b) : GoodIn big (c :: (a ++ b)) := fun w h => (List.mem_cons.mp h).elim (fun e => ha w (List.mem_cons.mpr (Or.inl e))) (fun h => (List.mem_append.mp h).elim (fun h => ha w (List.mem_cons.mpr (Or.inr h))) (hb w))
theorem goodIn_sub {big ws : List Cond} (hm : ∀ w ∈ ws, w ∈ big) (h : ws.all goodWord = true) : GoodIn big ws := fun w hw => ⟨hm w hw, good_of_word (List.all_eq_true.mp h w hw)⟩
/-! ===== END ===== -/
/-! ===== BEGIN printed: names, fields, word lists, decode rows ===== -/
def RX0 : String := "MeshTurns$Grid"
def TX0 : u_T := fun k => match k with
  | 0 => ("MeshTurns$Grid", "columns", "I", false)
  | 1 => ("MeshTurns$Grid", "rows", "I", false)
  | _ => ("MeshTurns$Grid", "broken", "J", false)
def tyX0 : Nat → FieldType := fun k => match k with
  | 0 => .int
  | 1 => .int
  | _ => .long
abbrev wsX00 : List Cond := u_ws RX0 TX0 3
theorem nmX0 : ∀ a, a < 3 → ∀ b, b < 3 → a ≠ b → (TX0 a).2.1 ≠ (TX0 b).2.1 := by decide +kernel
theorem tyX0_ok : ∀ k, k < 3 → parseFieldDescriptor (TX0 k).2.2.1 = some (tyX0 k) := by decide +kernel
abbrev cX0_init : ByteArray := prog_2_method_1_code
def yX0_init : MethodName := ⟨RX0, "<init>", "()V"⟩
abbrev cX0_layOut : ByteArray := prog_2_method_2_code
def yX0_layOut : MethodName := ⟨RX0, "layOut", "(II)V"⟩
abbrev cX0_copyGrid : ByteArray := prog_2_method_3_code
def yX0_copyGrid : MethodName := ⟨RX0, "copyGrid", "(LMeshTurns$Grid;)V"⟩
abbrev cX0_boxes : ByteArray := prog_2_method_4_code
def yX0_boxes : MethodName := ⟨RX0, "boxes", "()I"⟩
abbrev cX0_has : ByteArray := prog_2_method_5_code
def yX0_has : MethodName := ⟨RX0, "has", "(I)Z"⟩
abbrev cX0_beside : ByteArray := prog_2_method_6_code
def yX0_beside : MethodName := ⟨RX0, "beside", "(II)I"⟩
abbrev cX0_distance : ByteArray := prog_2_method_7_code
def yX0_distance : MethodName := ⟨RX0, "distance", "(II)I"⟩
abbrev cX0_linkAt : ByteArray := prog_2_method_8_code
def yX0_linkAt : MethodName := ⟨RX0, "linkAt", "(II)I"⟩
abbrev cX0_boxOfLink : ByteArray := prog_2_method_9_code
def yX0_boxOfLink : MethodName := ⟨RX0, "boxOfLink", "(I)I"⟩
abbrev cX0_sideOfLink : ByteArray := prog_2_method_10_code
def yX0_sideOfLink : MethodName := ⟨RX0, "sideOfLink", "(I)I"⟩
abbrev cX0_isLink : ByteArray := prog_2_method_11_code
def yX0_isLink : MethodName := ⟨RX0, "isLink", "(I)Z"⟩
abbrev cX0_isWhole : ByteArray := prog_2_method_12_code
def yX0_isWhole : MethodName := ⟨RX0, "isWhole", "(I)Z"⟩
abbrev cX0_makeWhole : ByteArray := prog_2_method_13_code
def yX0_makeWhole : MethodName := ⟨RX0, "makeWhole", "(IZ)V"⟩
abbrev cX0_brokenLinks : ByteArray := prog_2_method_14_code
def yX0_brokenLinks : MethodName := ⟨RX0, "brokenLinks", "()I"⟩
def RX1 : String := "MeshTurns$Jam"
def TX1 : u_T := fun k => match k with
  | _ => ("MeshTurns$Jam", "stuck", "[Z", true)
def tyX1 : Nat → FieldType := fun k => match k with
  | _ => .array .boolean
abbrev wsX10 : List Cond := u_ws RX1 TX1 1
theorem nmX1 : ∀ a, a < 1 → ∀ b, b < 1 → a ≠ b → (TX1 a).2.1 ≠ (TX1 b).2.1 := by decide +kernel
theorem tyX1_ok : ∀ k, k < 1 → parseFieldDescriptor (TX1 k).2.2.1 = some (tyX1 k) := by decide +kernel
abbrev cX1_init : ByteArray := prog_3_method_1_code
def yX1_init : MethodName := ⟨RX1, "<init>", "()V"⟩
abbrev cX1_holds : ByteArray := prog_3_method_2_code
def yX1_holds : MethodName := ⟨RX1, "holds", "(LMeshTurns$State;LMeshTurns$Routes;I)Z"⟩
abbrev cX1_size : ByteArray := prog_3_method_3_code
def yX1_size : MethodName := ⟨RX1, "size", "(LMeshTurns$State;LMeshTurns$Routes;)I"⟩
abbrev cX1_find : ByteArray := prog_3_method_4_code
def yX1_find : MethodName := ⟨RX1, "find", "(LMeshTurns$State;LMeshTurns$Routes;)V"⟩
abbrev cX1_canGoOn : ByteArray := prog_3_method_5_code
def yX1_canGoOn : MethodName := ⟨RX1, "canGoOn", "(LMeshTurns$State;LMeshTurns$Routes;I)Z"⟩
abbrev cX1_hasFreePacket : ByteArray := prog_3_method_6_code
def yX1_hasFreePacket : MethodName := ⟨RX1, "hasFreePacket", "(LMeshTurns$Packets;I)Z"⟩
def RX2 : String := "MeshTurns$Packets"
def TX2 : u_T := fun k => match k with
  | 0 => ("MeshTurns$Packets", "sent", "I", false)
  | 1 => ("MeshTurns$Packets", "from", "[I", true)
  | 2 => ("MeshTurns$Packets", "to", "[I", true)
  | 3 => ("MeshTurns$Packets", "place", "[I", true)
  | 4 => ("MeshTurns$Packets", "box", "[I", true)
  | 5 => ("MeshTurns$Packets", "moves", "[I", true)
  | 6 => ("MeshTurns$Packets", "detours", "[I", true)
  | 7 => ("MeshTurns$Packets", "waits", "[I", true)
  | 8 => ("MeshTurns$Packets", "sentIn", "[I", true)
  | 9 => ("MeshTurns$Packets", "arrivedIn", "[I", true)
  | _ => ("MeshTurns$Packets", "turned", "[I", true)
def tyX2 : Nat → FieldType := fun k => match k with
  | 0 => .int
  | 1 => .array .int
  | 2 => .array .int
  | 3 => .array .int
  | 4 => .array .int
  | 5 => .array .int
  | 6 => .array .int
  | 7 => .array .int
  | 8 => .array .int
  | 9 => .array .int
  | _ => .array .int
abbrev wsX20 : List Cond := u_ws RX2 TX2 11
theorem nmX2 : ∀ a, a < 11 → ∀ b, b < 11 → a ≠ b → (TX2 a).2.1 ≠ (TX2 b).2.1 := by decide +kernel
theorem tyX2_ok : ∀ k, k < 11 → parseFieldDescriptor (TX2 k).2.2.1 = some (tyX2 k) := by decide +kernel
abbrev cX2_init : ByteArray := prog_4_method_1_code
def yX2_init : MethodName := ⟨RX2, "<init>", "()V"⟩
abbrev cX2_copyPackets : ByteArray := prog_4_method_2_code
def yX2_copyPackets : MethodName := ⟨RX2, "copyPackets", "(LMeshTurns$Packets;)V"⟩
abbrev cX2_has : ByteArray := prog_4_method_3_code
def yX2_has : MethodName := ⟨RX2, "has", "(I)Z"⟩
abbrev cX2_add : ByteArray := prog_4_method_4_code
def yX2_add : MethodName := ⟨RX2, "add", "(III)I"⟩
abbrev cX2_noteMove : ByteArray := prog_4_method_5_code
def yX2_noteMove : MethodName := ⟨RX2, "noteMove", "(IIIZ)V"⟩
abbrev cX2_countIn : ByteArray := prog_4_method_6_code
def yX2_countIn : MethodName := ⟨RX2, "countIn", "(I)I"⟩
abbrev cX2_countAt : ByteArray := prog_4_method_7_code
def yX2_countAt : MethodName := ⟨RX2, "countAt", "(II)I"⟩
abbrev cX2_sum : ByteArray := prog_4_method_8_code
def yX2_sum : MethodName := ⟨RX2, "sum", "([I)I"⟩
def RX3 : String := "MeshTurns$Pad"
def TX3 : u_T := fun k => match k with
  | 0 => ("MeshTurns$Pad", "signs", "[C", true)
  | 1 => ("MeshTurns$Pad", "length", "I", false)
  | 2 => ("MeshTurns$Pad", "orders", "I", false)
  | 3 => ("MeshTurns$Pad", "kinds", "[I", true)
  | 4 => ("MeshTurns$Pad", "firsts", "[I", true)
  | 5 => ("MeshTurns$Pad", "seconds", "[I", true)
  | _ => ("MeshTurns$Pad", "place", "I", false)
def tyX3 : Nat → FieldType := fun k => match k with
  | 0 => .array .char
  | 1 => .int
  | 2 => .int
  | 3 => .array .int
  | 4 => .array .int
  | 5 => .array .int
  | _ => .int
abbrev wsX30 : List Cond := u_ws RX3 TX3 7
theorem nmX3 : ∀ a, a < 7 → ∀ b, b < 7 → a ≠ b → (TX3 a).2.1 ≠ (TX3 b).2.1 := by decide +kernel
theorem tyX3_ok : ∀ k, k < 7 → parseFieldDescriptor (TX3 k).2.2.1 = some (tyX3 k) := by decide +kernel
abbrev cX3_init : ByteArray := prog_5_method_1_code
def yX3_init : MethodName := ⟨RX3, "<init>", "()V"⟩
abbrev cX3_countCharacters : ByteArray := prog_5_method_2_code
def yX3_countCharacters : MethodName := ⟨RX3, "countCharacters", "(J)I"⟩
abbrev cX3_fits : ByteArray := prog_5_method_3_code
def yX3_fits : MethodName := ⟨RX3, "fits", "(I)Z"⟩
abbrev cX3_append : ByteArray := prog_5_method_4_code
def yX3_append : MethodName := ⟨RX3, "append", "(JI)V"⟩
abbrev cX3_readOrders : ByteArray := prog_5_method_5_code
def yX3_readOrders : MethodName := ⟨RX3, "readOrders", "()I"⟩
abbrev cX3_readOrder : ByteArray := prog_5_method_6_code
def yX3_readOrder : MethodName := ⟨RX3, "readOrder", "()Z"⟩
abbrev cX3_signHere : ByteArray := prog_5_method_7_code
def yX3_signHere : MethodName := ⟨RX3, "signHere", "()C"⟩
abbrev cX3_readSign : ByteArray := prog_5_method_8_code
def yX3_readSign : MethodName := ⟨RX3, "readSign", "(C)Z"⟩
abbrev cX3_readNumber : ByteArray := prog_5_method_9_code
def yX3_readNumber : MethodName := ⟨RX3, "readNumber", "()I"⟩
abbrev cX3_readDigit : ByteArray := prog_5_method_10_code
def yX3_readDigit : MethodName := ⟨RX3, "readDigit", "()I"⟩
abbrev cX3_readSide : ByteArray := prog_5_method_11_code
def yX3_readSide : MethodName := ⟨RX3, "readSide", "()I"⟩
abbrev cX3_sideOfSign : ByteArray := prog_5_method_12_code
def yX3_sideOfSign : MethodName := ⟨RX3, "sideOfSign", "(C)I"⟩
def RX4 : String := "MeshTurns$Routes"
def TX4 : u_T := fun k => match k with
  | 0 => ("MeshTurns$Routes", "eastIsFirst", "Z", false)
  | 1 => ("MeshTurns$Routes", "open", "[I", true)
  | 2 => ("MeshTurns$Routes", "lengths", "[I", true)
  | 3 => ("MeshTurns$Routes", "numbers", "[I", true)
  | 4 => ("MeshTurns$Routes", "queue", "[I", true)
  | _ => ("MeshTurns$Routes", "queued", "I", false)
def tyX4 : Nat → FieldType := fun k => match k with
  | 0 => .boolean
  | 1 => .array .int
  | 2 => .array .int
  | 3 => .array .int
  | 4 => .array .int
  | _ => .int
abbrev wsX40 : List Cond := u_ws RX4 TX4 6
theorem nmX4 : ∀ a, a < 6 → ∀ b, b < 6 → a ≠ b → (TX4 a).2.1 ≠ (TX4 b).2.1 := by decide +kernel
theorem tyX4_ok : ∀ k, k < 6 → parseFieldDescriptor (TX4 k).2.2.1 = some (tyX4 k) := by decide +kernel
abbrev cX4_init : ByteArray := prog_6_method_1_code
def yX4_init : MethodName := ⟨RX4, "<init>", "()V"⟩
abbrev cX4_learn : ByteArray := prog_6_method_2_code
def yX4_learn : MethodName := ⟨RX4, "learn", "(LMeshTurns$Grid;I)V"⟩
abbrev cX4_boxBehind : ByteArray := prog_6_method_3_code
def yX4_boxBehind : MethodName := ⟨RX4, "boxBehind", "(II)I"⟩
abbrev cX4_length : ByteArray := prog_6_method_4_code
def yX4_length : MethodName := ⟨RX4, "length", "(III)I"⟩
abbrev cX4_lengthAfter : ByteArray := prog_6_method_5_code
def yX4_lengthAfter : MethodName := ⟨RX4, "lengthAfter", "(IIII)I"⟩
abbrev cX4_shortestWays : ByteArray := prog_6_method_6_code
def yX4_shortestWays : MethodName := ⟨RX4, "shortestWays", "(II)I"⟩
abbrev cX4_spot : ByteArray := prog_6_method_7_code
def yX4_spot : MethodName := ⟨RX4, "spot", "(II)I"⟩
abbrev cX4_mayMove : ByteArray := prog_6_method_8_code
def yX4_mayMove : MethodName := ⟨RX4, "mayMove", "(II)Z"⟩
abbrev cX4_search : ByteArray := prog_6_method_9_code
def yX4_search : MethodName := ⟨RX4, "search", "(I)V"⟩
abbrev cX4_stepBack : ByteArray := prog_6_method_10_code
def yX4_stepBack : MethodName := ⟨RX4, "stepBack", "(III)V"⟩
abbrev cX4_opposite : ByteArray := prog_6_method_11_code
def yX4_opposite : MethodName := ⟨RX4, "opposite", "(I)I"⟩
abbrev cX4_reach : ByteArray := prog_6_method_12_code
def yX4_reach : MethodName := ⟨RX4, "reach", "(IIII)V"⟩
def RX5 : String := "MeshTurns$State"
def TX5 : u_T := fun k => match k with
  | 0 => ("MeshTurns$State", "settings", "[I", true)
  | 1 => ("MeshTurns$State", "grid", "LMeshTurns$Grid;", true)
  | 2 => ("MeshTurns$State", "packets", "LMeshTurns$Packets;", true)
  | 3 => ("MeshTurns$State", "inside", "[I", true)
  | 4 => ("MeshTurns$State", "movesFrom", "[I", true)
  | _ => ("MeshTurns$State", "tick", "I", false)
def tyX5 : Nat → FieldType := fun k => match k with
  | 0 => .array .int
  | 1 => .object "MeshTurns$Grid"
  | 2 => .object "MeshTurns$Packets"
  | 3 => .array .int
  | 4 => .array .int
  | _ => .int
abbrev wsX50 : List Cond := u_ws RX5 TX5 6
theorem nmX5 : ∀ a, a < 6 → ∀ b, b < 6 → a ≠ b → (TX5 a).2.1 ≠ (TX5 b).2.1 := by decide +kernel
theorem tyX5_ok : ∀ k, k < 6 → parseFieldDescriptor (TX5 k).2.2.1 = some (tyX5 k) := by decide +kernel
abbrev cX5_init : ByteArray := prog_7_method_1_code
def yX5_init : MethodName := ⟨RX5, "<init>", "()V"⟩
abbrev cX5_copyState : ByteArray := prog_7_method_2_code
def yX5_copyState : MethodName := ⟨RX5, "copyState", "(LMeshTurns$State;LMeshTurns$State;)V"⟩
abbrev cX5_hasRoom : ByteArray := prog_7_method_3_code
def yX5_hasRoom : MethodName := ⟨RX5, "hasRoom", "(I)Z"⟩
abbrev cX5_wayLength : ByteArray := prog_7_method_4_code
def yX5_wayLength : MethodName := ⟨RX5, "wayLength", "(LMeshTurns$Routes;II)I"⟩
abbrev cX5_wayLengthOf : ByteArray := prog_7_method_5_code
def yX5_wayLengthOf : MethodName := ⟨RX5, "wayLengthOf", "(LMeshTurns$Routes;I)I"⟩
abbrev cX5_mostMoves : ByteArray := prog_7_method_6_code
def yX5_mostMoves : MethodName := ⟨RX5, "mostMoves", "(I)I"⟩
abbrev cX5_isPossible : ByteArray := prog_7_method_7_code
def yX5_isPossible : MethodName := ⟨RX5, "isPossible", "(LMeshTurns$Routes;II)Z"⟩
abbrev cX5_firstSide : ByteArray := prog_7_method_8_code
def yX5_firstSide : MethodName := ⟨RX5, "firstSide", "(LMeshTurns$Routes;IZ)I"⟩
abbrev cX5_letsIn : ByteArray := prog_7_method_9_code
def yX5_letsIn : MethodName := ⟨RX5, "letsIn", "(II)Z"⟩
abbrev cX5_connectedPairs : ByteArray := prog_7_method_10_code
def yX5_connectedPairs : MethodName := ⟨RX5, "connectedPairs", "(LMeshTurns$Routes;)I"⟩
abbrev cX5_passTicks : ByteArray := prog_7_method_11_code
def yX5_passTicks : MethodName := ⟨RX5, "passTicks", "(LMeshTurns$Routes;I)V"⟩
abbrev cX5_comesInside : ByteArray := prog_7_method_12_code
def yX5_comesInside : MethodName := ⟨RX5, "comesInside", "(I)Z"⟩
abbrev cX5_movesOn : ByteArray := prog_7_method_13_code
def yX5_movesOn : MethodName := ⟨RX5, "movesOn", "(LMeshTurns$Routes;I)Z"⟩
def RX6 : String := "MeshTurns"
def TX6 : u_T := fun k => match k with
  | 0 => ("MeshTurns", "now", "LMeshTurns$State;", true)
  | 1 => ("MeshTurns", "routes", "LMeshTurns$Routes;", true)
  | 2 => ("MeshTurns", "trial", "LMeshTurns$State;", true)
  | 3 => ("MeshTurns", "trialRoutes", "LMeshTurns$Routes;", true)
  | 4 => ("MeshTurns", "jam", "LMeshTurns$Jam;", true)
  | 5 => ("MeshTurns", "pad", "LMeshTurns$Pad;", true)
  | 6 => ("MeshTurns", "history", "[LMeshTurns$State;", true)
  | 7 => ("MeshTurns", "undoable", "I", false)
  | 8 => ("MeshTurns", "slots", "[LMeshTurns$State;", true)
  | _ => ("MeshTurns", "slotIsUsed", "[Z", true)
def tyX6 : Nat → FieldType := fun k => match k with
  | 0 => .object "MeshTurns$State"
  | 1 => .object "MeshTurns$Routes"
  | 2 => .object "MeshTurns$State"
  | 3 => .object "MeshTurns$Routes"
  | 4 => .object "MeshTurns$Jam"
  | 5 => .object "MeshTurns$Pad"
  | 6 => .array (.object "MeshTurns$State")
  | 7 => .int
  | 8 => .array (.object "MeshTurns$State")
  | _ => .array .boolean
abbrev wsX60 : List Cond := u_ws RX6 TX6 10
theorem nmX6 : ∀ a, a < 10 → ∀ b, b < 10 → a ≠ b → (TX6 a).2.1 ≠ (TX6 b).2.1 := by decide +kernel
theorem tyX6_ok : ∀ k, k < 10 → parseFieldDescriptor (TX6 k).2.2.1 = some (tyX6 k) := by decide +kernel
abbrev cX6_init : ByteArray := prog_1_method_1_code
def yX6_init : MethodName := ⟨RX6, "<init>", "()V"⟩
abbrev cX6_set : ByteArray := prog_1_method_2_code
def yX6_set : MethodName := ⟨RX6, "set", "(II)I"⟩
abbrev cX6_mesh : ByteArray := prog_1_method_3_code
def yX6_mesh : MethodName := ⟨RX6, "mesh", "(II)I"⟩
abbrev cX6_link : ByteArray := prog_1_method_4_code
def yX6_link : MethodName := ⟨RX6, "link", "(III)I"⟩
abbrev cX6_send : ByteArray := prog_1_method_5_code
def yX6_send : MethodName := ⟨RX6, "send", "(II)I"⟩
abbrev cX6_ticks : ByteArray := prog_1_method_6_code
def yX6_ticks : MethodName := ⟨RX6, "ticks", "(I)I"⟩
abbrev cX6_ofPacket : ByteArray := prog_1_method_7_code
def yX6_ofPacket : MethodName := ⟨RX6, "ofPacket", "(II)I"⟩
abbrev cX6_ofBox : ByteArray := prog_1_method_8_code
def yX6_ofBox : MethodName := ⟨RX6, "ofBox", "(II)I"⟩
abbrev cX6_count : ByteArray := prog_1_method_9_code
def yX6_count : MethodName := ⟨RX6, "count", "(I)I"⟩
abbrev cX6_leastWay : ByteArray := prog_1_method_10_code
def yX6_leastWay : MethodName := ⟨RX6, "leastWay", "(II)I"⟩
abbrev cX6_ways : ByteArray := prog_1_method_11_code
def yX6_ways : MethodName := ⟨RX6, "ways", "(II)I"⟩
abbrev cX6_pairs : ByteArray := prog_1_method_12_code
def yX6_pairs : MethodName := ⟨RX6, "pairs", "()I"⟩
abbrev cX6_worstLink : ByteArray := prog_1_method_13_code
def yX6_worstLink : MethodName := ⟨RX6, "worstLink", "(I)I"⟩
abbrev cX6_busiest : ByteArray := prog_1_method_14_code
def yX6_busiest : MethodName := ⟨RX6, "busiest", "(I)I"⟩
abbrev cX6_arrivesIn : ByteArray := prog_1_method_15_code
def yX6_arrivesIn : MethodName := ⟨RX6, "arrivesIn", "(I)I"⟩
abbrev cX6_arrivedBy : ByteArray := prog_1_method_16_code
def yX6_arrivedBy : MethodName := ⟨RX6, "arrivedBy", "(I)I"⟩
abbrev cX6_put : ByteArray := prog_1_method_17_code
def yX6_put : MethodName := ⟨RX6, "put", "(J)I"⟩
abbrev cX6_wipe : ByteArray := prog_1_method_18_code
def yX6_wipe : MethodName := ⟨RX6, "wipe", "()I"⟩
abbrev cX6_fault : ByteArray := prog_1_method_19_code
def yX6_fault : MethodName := ⟨RX6, "fault", "()I"⟩
abbrev cX6_carryOut : ByteArray := prog_1_method_20_code
def yX6_carryOut : MethodName := ⟨RX6, "carryOut", "()I"⟩
abbrev cX6_undo : ByteArray := prog_1_method_21_code
def yX6_undo : MethodName := ⟨RX6, "undo", "()I"⟩
abbrev cX6_save : ByteArray := prog_1_method_22_code
def yX6_save : MethodName := ⟨RX6, "save", "(I)I"⟩
abbrev cX6_restore : ByteArray := prog_1_method_23_code
def yX6_restore : MethodName := ⟨RX6, "restore", "(I)I"⟩
abbrev cX6_leastOfSetting : ByteArray := prog_1_method_24_code
def yX6_leastOfSetting : MethodName := ⟨RX6, "leastOfSetting", "(I)I"⟩
abbrev cX6_mostOfSetting : ByteArray := prog_1_method_25_code
def yX6_mostOfSetting : MethodName := ⟨RX6, "mostOfSetting", "(I)I"⟩
abbrev cX6_isLine : ByteArray := prog_1_method_26_code
def yX6_isLine : MethodName := ⟨RX6, "isLine", "(I)Z"⟩
abbrev cX6_isSide : ByteArray := prog_1_method_27_code
def yX6_isSide : MethodName := ⟨RX6, "isSide", "(I)Z"⟩
abbrev cX6_isTicks : ByteArray := prog_1_method_28_code
def yX6_isTicks : MethodName := ⟨RX6, "isTicks", "(I)Z"⟩
abbrev cX6_isSlot : ByteArray := prog_1_method_29_code
def yX6_isSlot : MethodName := ⟨RX6, "isSlot", "(I)Z"⟩
abbrev cX6_linkError : ByteArray := prog_1_method_30_code
def yX6_linkError : MethodName := ⟨RX6, "linkError", "(III)I"⟩
abbrev cX6_sendError : ByteArray := prog_1_method_31_code
def yX6_sendError : MethodName := ⟨RX6, "sendError", "(II)I"⟩
abbrev cX6_learnRoutes : ByteArray := prog_1_method_32_code
def yX6_learnRoutes : MethodName := ⟨RX6, "learnRoutes", "()V"⟩
abbrev cX6_changeLink : ByteArray := prog_1_method_33_code
def yX6_changeLink : MethodName := ⟨RX6, "changeLink", "(III)I"⟩
abbrev cX6_obey : ByteArray := prog_1_method_34_code
def yX6_obey : MethodName := ⟨RX6, "obey", "(I)Z"⟩
abbrev cX6_recordState : ByteArray := prog_1_method_35_code
def yX6_recordState : MethodName := ⟨RX6, "recordState", "()V"⟩
abbrev cX6_dropOldestState : ByteArray := prog_1_method_36_code
def yX6_dropOldestState : MethodName := ⟨RX6, "dropOldestState", "()V"⟩
abbrev cX6_linkState : ByteArray := prog_1_method_37_code
def yX6_linkState : MethodName := ⟨RX6, "linkState", "(II)I"⟩
abbrev cX6_findWorstLink : ByteArray := prog_1_method_38_code
def yX6_findWorstLink : MethodName := ⟨RX6, "findWorstLink", "()I"⟩
abbrev cX6_pairsWithout : ByteArray := prog_1_method_39_code
def yX6_pairsWithout : MethodName := ⟨RX6, "pairsWithout", "(I)I"⟩
def RX7 : String := "MeshTurnsModel"
def TX7 : u_T := fun k => match k with
  | 0 => ("MeshTurnsModel", "now", "[I", true)
  | 1 => ("MeshTurnsModel", "kept", "[I", true)
  | 2 => ("MeshTurnsModel", "history", "[I", true)
  | 3 => ("MeshTurnsModel", "undos", "I", false)
  | 4 => ("MeshTurnsModel", "saved", "[I", true)
  | 5 => ("MeshTurnsModel", "isSaved", "[Z", true)
  | 6 => ("MeshTurnsModel", "pad", "[I", true)
  | 7 => ("MeshTurnsModel", "signs", "I", false)
  | 8 => ("MeshTurnsModel", "isInText", "Z", false)
  | 9 => ("MeshTurnsModel", "far", "[I", true)
  | 10 => ("MeshTurnsModel", "many", "[I", true)
  | 11 => ("MeshTurnsModel", "isLaid", "[Z", true)
  | 12 => ("MeshTurnsModel", "sides", "[I", true)
  | 13 => ("MeshTurnsModel", "isStuck", "[Z", true)
  | 14 => ("MeshTurnsModel", "orders", "[I", true)
  | 15 => ("MeshTurnsModel", "read", "I", false)
  | 16 => ("MeshTurnsModel", "place", "I", false)
  | _ => ("MeshTurnsModel", "isWrong", "Z", false)
def tyX7 : Nat → FieldType := fun k => match k with
  | 0 => .array .int
  | 1 => .array .int
  | 2 => .array .int
  | 3 => .int
  | 4 => .array .int
  | 5 => .array .boolean
  | 6 => .array .int
  | 7 => .int
  | 8 => .boolean
  | 9 => .array .int
  | 10 => .array .int
  | 11 => .array .boolean
  | 12 => .array .int
  | 13 => .array .boolean
  | 14 => .array .int
  | 15 => .int
  | 16 => .int
  | _ => .boolean
abbrev wsX70 : List Cond := u_ws RX7 TX7 18
theorem nmX7 : ∀ a, a < 18 → ∀ b, b < 18 → a ≠ b → (TX7 a).2.1 ≠ (TX7 b).2.1 := by decide +kernel
theorem tyX7_ok : ∀ k, k < 18 → parseFieldDescriptor (TX7 k).2.2.1 = some (tyX7 k) := by decide +kernel
abbrev cX7_init : ByteArray := prog_9_method_1_code
def yX7_init : MethodName := ⟨RX7, "<init>", "()V"⟩
abbrev cX7_in : ByteArray := prog_9_method_2_code
def yX7_in : MethodName := ⟨RX7, "in", "(III)Z"⟩
abbrev cX7_record : ByteArray := prog_9_method_3_code
def yX7_record : MethodName := ⟨RX7, "record", "()V"⟩
abbrev cX7_keep : ByteArray := prog_9_method_4_code
def yX7_keep : MethodName := ⟨RX7, "keep", "()V"⟩
abbrev cX7_comeBack : ByteArray := prog_9_method_5_code
def yX7_comeBack : MethodName := ⟨RX7, "comeBack", "()V"⟩
abbrev cX7_boxes : ByteArray := prog_9_method_6_code
def yX7_boxes : MethodName := ⟨RX7, "boxes", "()I"⟩
abbrev cX7_isBox : ByteArray := prog_9_method_7_code
def yX7_isBox : MethodName := ⟨RX7, "isBox", "(I)Z"⟩
abbrev cX7_beside : ByteArray := prog_9_method_8_code
def yX7_beside : MethodName := ⟨RX7, "beside", "(II)I"⟩
abbrev cX7_linkOf : ByteArray := prog_9_method_9_code
def yX7_linkOf : MethodName := ⟨RX7, "linkOf", "(II)I"⟩
abbrev cX7_isWhole : ByteArray := prog_9_method_10_code
def yX7_isWhole : MethodName := ⟨RX7, "isWhole", "(II)Z"⟩
abbrev cX7_set : ByteArray := prog_9_method_11_code
def yX7_set : MethodName := ⟨RX7, "set", "(II)I"⟩
abbrev cX7_mesh : ByteArray := prog_9_method_12_code
def yX7_mesh : MethodName := ⟨RX7, "mesh", "(II)I"⟩
abbrev cX7_link : ByteArray := prog_9_method_13_code
def yX7_link : MethodName := ⟨RX7, "link", "(III)I"⟩
abbrev cX7_forget : ByteArray := prog_9_method_14_code
def yX7_forget : MethodName := ⟨RX7, "forget", "()V"⟩
abbrev cX7_apart : ByteArray := prog_9_method_15_code
def yX7_apart : MethodName := ⟨RX7, "apart", "(II)I"⟩
abbrev cX7_isDetour : ByteArray := prog_9_method_16_code
def yX7_isDetour : MethodName := ⟨RX7, "isDetour", "(III)Z"⟩
abbrev cX7_moved : ByteArray := prog_9_method_17_code
def yX7_moved : MethodName := ⟨RX7, "moved", "(III)I"⟩
abbrev cX7_layFar : ByteArray := prog_9_method_18_code
def yX7_layFar : MethodName := ⟨RX7, "layFar", "(I)V"⟩
abbrev cX7_farOf : ByteArray := prog_9_method_19_code
def yX7_farOf : MethodName := ⟨RX7, "farOf", "(II)I"⟩
abbrev cX7_isPacket : ByteArray := prog_9_method_20_code
def yX7_isPacket : MethodName := ⟨RX7, "isPacket", "(I)Z"⟩
abbrev cX7_of : ByteArray := prog_9_method_21_code
def yX7_of : MethodName := ⟨RX7, "of", "(II)I"⟩
abbrev cX7_book : ByteArray := prog_9_method_22_code
def yX7_book : MethodName := ⟨RX7, "book", "(III)V"⟩
abbrev cX7_standing : ByteArray := prog_9_method_23_code
def yX7_standing : MethodName := ⟨RX7, "standing", "(I)I"⟩
abbrev cX7_lengthOf : ByteArray := prog_9_method_24_code
def yX7_lengthOf : MethodName := ⟨RX7, "lengthOf", "(I)I"⟩
abbrev cX7_laySides : ByteArray := prog_9_method_25_code
def yX7_laySides : MethodName := ⟨RX7, "laySides", "(I)I"⟩
abbrev cX7_insideOf : ByteArray := prog_9_method_26_code
def yX7_insideOf : MethodName := ⟨RX7, "insideOf", "(I)I"⟩
abbrev cX7_hasRoom : ByteArray := prog_9_method_27_code
def yX7_hasRoom : MethodName := ⟨RX7, "hasRoom", "(I)Z"⟩
abbrev cX7_send : ByteArray := prog_9_method_28_code
def yX7_send : MethodName := ⟨RX7, "send", "(II)I"⟩
abbrev cX7_goesTo : ByteArray := prog_9_method_29_code
def yX7_goesTo : MethodName := ⟨RX7, "goesTo", "(I)I"⟩
abbrev cX7_move : ByteArray := prog_9_method_30_code
def yX7_move : MethodName := ⟨RX7, "move", "(II)V"⟩
abbrev cX7_pass : ByteArray := prog_9_method_31_code
def yX7_pass : MethodName := ⟨RX7, "pass", "()V"⟩
abbrev cX7_ticks : ByteArray := prog_9_method_32_code
def yX7_ticks : MethodName := ⟨RX7, "ticks", "(I)I"⟩
abbrev cX7_isFree : ByteArray := prog_9_method_33_code
def yX7_isFree : MethodName := ⟨RX7, "isFree", "(I)Z"⟩
abbrev cX7_layStuck : ByteArray := prog_9_method_34_code
def yX7_layStuck : MethodName := ⟨RX7, "layStuck", "()I"⟩
abbrev cX7_ofPacket : ByteArray := prog_9_method_35_code
def yX7_ofPacket : MethodName := ⟨RX7, "ofPacket", "(II)I"⟩
abbrev cX7_packetsOf : ByteArray := prog_9_method_36_code
def yX7_packetsOf : MethodName := ⟨RX7, "packetsOf", "(II)I"⟩
abbrev cX7_ofBox : ByteArray := prog_9_method_37_code
def yX7_ofBox : MethodName := ⟨RX7, "ofBox", "(II)I"⟩
abbrev cX7_sum : ByteArray := prog_9_method_38_code
def yX7_sum : MethodName := ⟨RX7, "sum", "(I)I"⟩
abbrev cX7_broken : ByteArray := prog_9_method_39_code
def yX7_broken : MethodName := ⟨RX7, "broken", "()I"⟩
abbrev cX7_count : ByteArray := prog_9_method_40_code
def yX7_count : MethodName := ⟨RX7, "count", "(I)I"⟩
abbrev cX7_leastWay : ByteArray := prog_9_method_41_code
def yX7_leastWay : MethodName := ⟨RX7, "leastWay", "(II)I"⟩
abbrev cX7_ways : ByteArray := prog_9_method_42_code
def yX7_ways : MethodName := ⟨RX7, "ways", "(II)I"⟩
abbrev cX7_pairsNow : ByteArray := prog_9_method_43_code
def yX7_pairsNow : MethodName := ⟨RX7, "pairsNow", "()I"⟩
abbrev cX7_pairs : ByteArray := prog_9_method_44_code
def yX7_pairs : MethodName := ⟨RX7, "pairs", "()I"⟩
abbrev cX7_worstLink : ByteArray := prog_9_method_45_code
def yX7_worstLink : MethodName := ⟨RX7, "worstLink", "(I)I"⟩
abbrev cX7_busiest : ByteArray := prog_9_method_46_code
def yX7_busiest : MethodName := ⟨RX7, "busiest", "(I)I"⟩
abbrev cX7_arrivesIn : ByteArray := prog_9_method_47_code
def yX7_arrivesIn : MethodName := ⟨RX7, "arrivesIn", "(I)I"⟩
abbrev cX7_arrivedBy : ByteArray := prog_9_method_48_code
def yX7_arrivedBy : MethodName := ⟨RX7, "arrivedBy", "(I)I"⟩
abbrev cX7_sign : ByteArray := prog_9_method_49_code
def yX7_sign : MethodName := ⟨RX7, "sign", "()I"⟩
abbrev cX7_number : ByteArray := prog_9_method_50_code
def yX7_number : MethodName := ⟨RX7, "number", "()I"⟩
abbrev cX7_side : ByteArray := prog_9_method_51_code
def yX7_side : MethodName := ⟨RX7, "side", "()I"⟩
abbrev cX7_readOne : ByteArray := prog_9_method_52_code
def yX7_readOne : MethodName := ⟨RX7, "readOne", "()V"⟩
abbrev cX7_faultOf : ByteArray := prog_9_method_53_code
def yX7_faultOf : MethodName := ⟨RX7, "faultOf", "()I"⟩
abbrev cX7_put : ByteArray := prog_9_method_54_code
def yX7_put : MethodName := ⟨RX7, "put", "(J)I"⟩
abbrev cX7_wipe : ByteArray := prog_9_method_55_code
def yX7_wipe : MethodName := ⟨RX7, "wipe", "()I"⟩
abbrev cX7_fault : ByteArray := prog_9_method_56_code
def yX7_fault : MethodName := ⟨RX7, "fault", "()I"⟩
abbrev cX7_carry : ByteArray := prog_9_method_57_code
def yX7_carry : MethodName := ⟨RX7, "carry", "(I)I"⟩
abbrev cX7_carryOut : ByteArray := prog_9_method_58_code
def yX7_carryOut : MethodName := ⟨RX7, "carryOut", "()I"⟩
abbrev cX7_undo : ByteArray := prog_9_method_59_code
def yX7_undo : MethodName := ⟨RX7, "undo", "()I"⟩
abbrev cX7_save : ByteArray := prog_9_method_60_code
def yX7_save : MethodName := ⟨RX7, "save", "(I)I"⟩
abbrev cX7_restore : ByteArray := prog_9_method_61_code
def yX7_restore : MethodName := ⟨RX7, "restore", "(I)I"⟩
def RJ13 : String := "java/lang/Long"
def TJ13 : u_T := fun k => match k with
  | _ => ("", "", "", false)
def tyJ13 : Nat → FieldType := fun k => match k with
  | _ => .int
abbrev wsJ130 : List Cond := u_ws RJ13 TJ13 0
theorem nmJ13 : ∀ a, a < 0 → ∀ b, b < 0 → a ≠ b → (TJ13 a).2.1 ≠ (TJ13 b).2.1 := by decide +kernel
theorem tyJ13_ok : ∀ k, k < 0 → parseFieldDescriptor (TJ13 k).2.2.1 = some (tyJ13 k) := by decide +kernel
abbrev cJ13_bitCount_95d88 : ByteArray := prog_10_method_50_code
def yJ13_bitCount_95d88 : MethodName := ⟨RJ13, "bitCount", "(J)I"⟩
def RJ9 : String := "java/lang/Math"
def TJ9 : u_T := fun k => match k with
  | _ => ("", "", "", false)
def tyJ9 : Nat → FieldType := fun k => match k with
  | _ => .int
abbrev wsJ90 : List Cond := u_ws RJ9 TJ9 0
theorem nmJ9 : ∀ a, a < 0 → ∀ b, b < 0 → a ≠ b → (TJ9 a).2.1 ≠ (TJ9 b).2.1 := by decide +kernel
theorem tyJ9_ok : ∀ k, k < 0 → parseFieldDescriptor (TJ9 k).2.2.1 = some (tyJ9 k) := by decide +kernel
abbrev cJ9_abs_0f7a4 : ByteArray := prog_11_method_59_code
def yJ9_abs_0f7a4 : MethodName := ⟨RJ9, "abs", "(I)I"⟩
abbrev cJ9_max_7cf53 : ByteArray := prog_11_method_65_code
def yJ9_max_7cf53 : MethodName := ⟨RJ9, "max", "(II)I"⟩
abbrev cJ9_min_7cf53 : ByteArray := prog_11_method_69_code
def yJ9_min_7cf53 : MethodName := ⟨RJ9, "min", "(II)I"⟩
def RJ10 : String := "java/lang/System"
def TJ10 : u_T := fun k => match k with
  | _ => ("", "", "", false)
def tyJ10 : Nat → FieldType := fun k => match k with
  | _ => .int
abbrev wsJ100 : List Cond := u_ws RJ10 TJ10 0
theorem nmJ10 : ∀ a, a < 0 → ∀ b, b < 0 → a ≠ b → (TJ10 a).2.1 ≠ (TJ10 b).2.1 := by decide +kernel
theorem tyJ10_ok : ∀ k, k < 0 → parseFieldDescriptor (TJ10 k).2.2.1 = some (tyJ10 k) := by decide +kernel
def RL : String := "MeshTurnsLaw"
abbrev cL_law : ByteArray := code
def yL_law : MethodName := ⟨RL, "law", "([I)Z"⟩
abbrev vwCl : List vw_C := [(RX0, TX0, 3), (RX1, TX1, 1), (RX2, TX2, 11), (RX3, TX3, 7), (RX4, TX4, 6), (RX5, TX5, 6), (RX6, TX6, 10), (RX7, TX7, 18)]
def wsL_law_r1 : List Cond := [Cond.classLink RL 7 RX6, Cond.instantiable RX6 10, Cond.initialized RX6, Cond.classLink RL 10 RX7, Cond.instantiable RX7 18, Cond.initialized RX7, Cond.constantLong RL 77 (4294967295), Cond.methodLink RL 9 yX6_init, Cond.instanceMethod yX6_init, Cond.code yX6_init cX6_init 2 none, Cond.methodLink RX6 3 objectInit, Cond.instanceMethod objectInit, Cond.code objectInit ⟨#[0xb1]⟩ 1 none, Cond.classLink RX6 9 RX5, Cond.instantiable RX5 6, Cond.initialized RX5, Cond.fieldLink RX6 12 "MeshTurns" "now" "LMeshTurns$State;", Cond.classLink RX6 16 RX4, Cond.instantiable RX4 6, Cond.initialized RX4, Cond.fieldLink RX6 19 "MeshTurns" "routes" "LMeshTurns$Routes;", Cond.fieldLink RX6 23 "MeshTurns" "trial" "LMeshTurns$State;", Cond.fieldLink RX6 26 "MeshTurns" "trialRoutes" "LMeshTurns$Routes;", Cond.classLink RX6 29 RX1]
def wsL_law_r2 : List Cond := [Cond.instantiable RX1 1, Cond.initialized RX1, Cond.fieldLink RX6 32 "MeshTurns" "jam" "LMeshTurns$Jam;", Cond.classLink RX6 36 RX3, Cond.instantiable RX3 7, Cond.initialized RX3, Cond.fieldLink RX6 39 "MeshTurns" "pad" "LMeshTurns$Pad;", Cond.fieldLink RX6 43 "MeshTurns" "history" "[LMeshTurns$State;", Cond.fieldLink RX6 47 "MeshTurns" "undoable" "I", Cond.fieldLink RX6 51 "MeshTurns" "slots" "[LMeshTurns$State;", Cond.arrayClass .boolean, Cond.fieldLink RX6 54 "MeshTurns" "slotIsUsed" "[Z", Cond.instanceMethod yX5_init, Cond.code yX5_init cX5_init 1 none, Cond.methodLink RX5 3 objectInit, Cond.arrayClass .int, Cond.fieldLink RX5 9 "MeshTurns$State" "settings" "[I", Cond.classLink RX5 15 RX0, Cond.instantiable RX0 3, Cond.initialized RX0, Cond.fieldLink RX5 18 "MeshTurns$State" "grid" "LMeshTurns$Grid;", Cond.classLink RX5 22 RX2, Cond.instantiable RX2 11, Cond.initialized RX2]
def wsL_law_r3 : List Cond := [Cond.fieldLink RX5 25 "MeshTurns$State" "packets" "LMeshTurns$Packets;", Cond.fieldLink RX5 29 "MeshTurns$State" "inside" "[I", Cond.fieldLink RX5 32 "MeshTurns$State" "movesFrom" "[I", Cond.fieldLink RX5 35 "MeshTurns$State" "tick" "I", Cond.instanceMethod yX0_init, Cond.code yX0_init cX0_init 1 none, Cond.methodLink RX0 3 objectInit, Cond.fieldLink RX0 9 "MeshTurns$Grid" "columns" "I", Cond.fieldLink RX0 15 "MeshTurns$Grid" "rows" "I", Cond.fieldLink RX0 18 "MeshTurns$Grid" "broken" "J", Cond.instanceMethod yX2_init, Cond.code yX2_init cX2_init 1 none, Cond.methodLink RX2 3 objectInit, Cond.fieldLink RX2 9 "MeshTurns$Packets" "sent" "I", Cond.fieldLink RX2 15 "MeshTurns$Packets" "from" "[I", Cond.fieldLink RX2 19 "MeshTurns$Packets" "to" "[I", Cond.fieldLink RX2 22 "MeshTurns$Packets" "place" "[I", Cond.fieldLink RX2 25 "MeshTurns$Packets" "box" "[I", Cond.fieldLink RX2 28 "MeshTurns$Packets" "moves" "[I", Cond.fieldLink RX2 31 "MeshTurns$Packets" "detours" "[I", Cond.fieldLink RX2 34 "MeshTurns$Packets" "waits" "[I", Cond.fieldLink RX2 37 "MeshTurns$Packets" "sentIn" "[I", Cond.fieldLink RX2 40 "MeshTurns$Packets" "arrivedIn" "[I", Cond.fieldLink RX2 43 "MeshTurns$Packets" "turned" "[I"]
def wsL_law_r4 : List Cond := [Cond.instanceMethod yX4_init, Cond.code yX4_init cX4_init 1 none, Cond.methodLink RX4 3 objectInit, Cond.fieldLink RX4 9 "MeshTurns$Routes" "eastIsFirst" "Z", Cond.fieldLink RX4 15 "MeshTurns$Routes" "open" "[I", Cond.fieldLink RX4 19 "MeshTurns$Routes" "lengths" "[I", Cond.fieldLink RX4 22 "MeshTurns$Routes" "numbers" "[I", Cond.fieldLink RX4 25 "MeshTurns$Routes" "queue" "[I", Cond.fieldLink RX4 28 "MeshTurns$Routes" "queued" "I", Cond.instanceMethod yX1_init, Cond.code yX1_init cX1_init 1 none, Cond.methodLink RX1 3 objectInit, Cond.fieldLink RX1 9 "MeshTurns$Jam" "stuck" "[Z", Cond.instanceMethod yX3_init, Cond.code yX3_init cX3_init 1 none, Cond.methodLink RX3 5 objectInit, Cond.arrayClass .char, Cond.fieldLink RX3 11 "MeshTurns$Pad" "signs" "[C", Cond.fieldLink RX3 15 "MeshTurns$Pad" "length" "I", Cond.fieldLink RX3 19 "MeshTurns$Pad" "orders" "I", Cond.fieldLink RX3 22 "MeshTurns$Pad" "kinds" "[I", Cond.fieldLink RX3 26 "MeshTurns$Pad" "firsts" "[I", Cond.fieldLink RX3 29 "MeshTurns$Pad" "seconds" "[I", Cond.fieldLink RX3 32 "MeshTurns$Pad" "place" "I"]
def wsL_law_r5 : List Cond := [Cond.methodLink RX6 58 yX6_learnRoutes, Cond.instanceMethod yX6_learnRoutes, Cond.selects RX6 yX6_learnRoutes yX6_learnRoutes, Cond.code yX6_learnRoutes cX6_learnRoutes 1 none, Cond.fieldLink RX6 88 "MeshTurns$State" "grid" "LMeshTurns$Grid;", Cond.fieldLink RX6 71 "MeshTurns$State" "settings" "[I", Cond.methodLink RX6 257 yX4_learn, Cond.instanceMethod yX4_learn, Cond.selects RX4 yX4_learn yX4_learn, Cond.code yX4_learn cX4_learn 8 none, Cond.methodLink RX4 32 yX0_boxes, Cond.instanceMethod yX0_boxes, Cond.selects RX0 yX0_boxes yX0_boxes, Cond.code yX0_boxes cX0_boxes 1 (some .int), Cond.methodLink RX4 38 yX0_linkAt, Cond.instanceMethod yX0_linkAt, Cond.selects RX0 yX0_linkAt yX0_linkAt, Cond.code yX0_linkAt cX0_linkAt 4 (some .int), Cond.methodLink RX0 32 Lib.Math.min.name, Cond.static Lib.Math.min.name, Cond.initialized "java/lang/Math", Cond.code Lib.Math.min.name Lib.Math.min.code 2 (some .int), Cond.methodLink RX0 28 yX0_beside, Cond.instanceMethod yX0_beside]
def wsL_law_r6 : List Cond := [Cond.selects RX0 yX0_beside yX0_beside, Cond.code yX0_beside cX0_beside 5 (some .int), Cond.methodLink RX4 42 yX0_isWhole, Cond.instanceMethod yX0_isWhole, Cond.selects RX0 yX0_isWhole yX0_isWhole, Cond.code yX0_isWhole cX0_isWhole 2 (some .boolean), Cond.methodLink RX4 46 yX0_beside, Cond.methodLink RX4 49 yX4_search, Cond.instanceMethod yX4_search, Cond.selects RX4 yX4_search yX4_search, Cond.code yX4_search cX4_search 3 none, Cond.methodLink RX4 53 yX4_spot, Cond.static yX4_spot, Cond.code yX4_spot cX4_spot 2 (some .int), Cond.methodLink RX4 67 yX4_reach, Cond.instanceMethod yX4_reach, Cond.selects RX4 yX4_reach yX4_reach, Cond.code yX4_reach cX4_reach 6 none, Cond.methodLink RX4 71 yX4_stepBack, Cond.instanceMethod yX4_stepBack, Cond.selects RX4 yX4_stepBack yX4_stepBack, Cond.code yX4_stepBack cX4_stepBack 9 none, Cond.methodLink RX4 56 yX4_boxBehind, Cond.instanceMethod yX4_boxBehind]
def wsL_law_r7 : List Cond := [Cond.selects RX4 yX4_boxBehind yX4_boxBehind, Cond.code yX4_boxBehind cX4_boxBehind 4 (some .int), Cond.methodLink RX4 59 yX4_mayMove, Cond.instanceMethod yX4_mayMove, Cond.selects RX4 yX4_mayMove yX4_mayMove, Cond.code yX4_mayMove cX4_mayMove 3 (some .boolean), Cond.methodLink RX4 75 yX4_opposite, Cond.static yX4_opposite, Cond.code yX4_opposite cX4_opposite 1 (some .int), Cond.methodLink RL 12 yX7_init, Cond.instanceMethod yX7_init, Cond.code yX7_init cX7_init 1 none, Cond.methodLink RX7 1 objectInit, Cond.fieldLink RX7 7 "MeshTurnsModel" "now" "[I", Cond.fieldLink RX7 13 "MeshTurnsModel" "kept" "[I", Cond.fieldLink RX7 16 "MeshTurnsModel" "history" "[I", Cond.fieldLink RX7 19 "MeshTurnsModel" "saved" "[I", Cond.fieldLink RX7 22 "MeshTurnsModel" "isSaved" "[Z", Cond.fieldLink RX7 26 "MeshTurnsModel" "pad" "[I", Cond.fieldLink RX7 29 "MeshTurnsModel" "far" "[I", Cond.fieldLink RX7 32 "MeshTurnsModel" "many" "[I", Cond.fieldLink RX7 35 "MeshTurnsModel" "isLaid" "[Z", Cond.fieldLink RX7 38 "MeshTurnsModel" "sides" "[I", Cond.fieldLink RX7 41 "MeshTurnsModel" "isStuck" "[Z"]
def wsL_law_r8 : List Cond := [Cond.fieldLink RX7 44 "MeshTurnsModel" "orders" "[I", Cond.methodLink RL 13 yX6_set, Cond.instanceMethod yX6_set, Cond.selects RX6 yX6_set yX6_set, Cond.code yX6_set cX6_set 4 (some .int), Cond.methodLink RX6 61 yX6_leastOfSetting, Cond.static yX6_leastOfSetting, Cond.code yX6_leastOfSetting cX6_leastOfSetting 1 (some .int), Cond.methodLink RX6 65 yX6_mostOfSetting, Cond.static yX6_mostOfSetting, Cond.code yX6_mostOfSetting cX6_mostOfSetting 1 (some .int), Cond.methodLink RX6 68 yX6_recordState, Cond.instanceMethod yX6_recordState, Cond.selects RX6 yX6_recordState yX6_recordState, Cond.code yX6_recordState cX6_recordState 1 none, Cond.methodLink RX6 280 yX6_dropOldestState, Cond.instanceMethod yX6_dropOldestState, Cond.selects RX6 yX6_dropOldestState yX6_dropOldestState, Cond.code yX6_dropOldestState cX6_dropOldestState 3 none, Cond.methodLink RX6 224 yX5_copyState, Cond.static yX5_copyState, Cond.code yX5_copyState cX5_copyState 2 none, Cond.methodLink RX5 39 arraycopyName, Cond.native arraycopyName]
def wsL_law_r9 : List Cond := [Cond.static arraycopyName, Cond.initialized "java/lang/System", Cond.methodLink RX5 45 yX0_copyGrid, Cond.instanceMethod yX0_copyGrid, Cond.selects RX0 yX0_copyGrid yX0_copyGrid, Cond.code yX0_copyGrid cX0_copyGrid 2 none, Cond.methodLink RX5 49 yX2_copyPackets, Cond.instanceMethod yX2_copyPackets, Cond.selects RX2 yX2_copyPackets yX2_copyPackets, Cond.code yX2_copyPackets cX2_copyPackets 2 none, Cond.methodLink RX2 46 arraycopyName, Cond.methodLink RL 17 yX7_set, Cond.instanceMethod yX7_set, Cond.selects RX7 yX7_set yX7_set, Cond.code yX7_set cX7_set 6 (some .int), Cond.methodLink RX7 59 yX7_in, Cond.static yX7_in, Cond.code yX7_in cX7_in 3 (some .boolean), Cond.methodLink RX7 70 yX7_record, Cond.instanceMethod yX7_record, Cond.selects RX7 yX7_record yX7_record, Cond.code yX7_record cX7_record 2 none, Cond.fieldLink RX7 47 "MeshTurnsModel" "isInText" "Z", Cond.fieldLink RX7 51 "MeshTurnsModel" "undos" "I"]
def wsL_law_r10 : List Cond := [Cond.methodLink RX7 73 yX7_forget, Cond.instanceMethod yX7_forget, Cond.selects RX7 yX7_forget yX7_forget, Cond.code yX7_forget cX7_forget 2 none, Cond.methodLink RL 18 yX6_mesh, Cond.instanceMethod yX6_mesh, Cond.selects RX6 yX6_mesh yX6_mesh, Cond.code yX6_mesh cX6_mesh 3 (some .int), Cond.fieldLink RX6 79 "MeshTurns$State" "packets" "LMeshTurns$Packets;", Cond.fieldLink RX6 83 "MeshTurns$Packets" "sent" "I", Cond.methodLink RX6 75 yX6_isLine, Cond.static yX6_isLine, Cond.code yX6_isLine cX6_isLine 1 (some .boolean), Cond.methodLink RX6 92 yX0_layOut, Cond.instanceMethod yX0_layOut, Cond.selects RX0 yX0_layOut yX0_layOut, Cond.code yX0_layOut cX0_layOut 3 none, Cond.methodLink RX6 98 yX0_boxes, Cond.methodLink RL 21 yX7_mesh, Cond.instanceMethod yX7_mesh, Cond.selects RX7 yX7_mesh yX7_mesh, Cond.code yX7_mesh cX7_mesh 4 (some .int), Cond.methodLink RX7 55 yX7_boxes, Cond.instanceMethod yX7_boxes]
def wsL_law_r11 : List Cond := [Cond.selects RX7 yX7_boxes yX7_boxes, Cond.code yX7_boxes cX7_boxes 1 (some .int), Cond.methodLink RL 22 yX6_link, Cond.instanceMethod yX6_link, Cond.selects RX6 yX6_link yX6_link, Cond.code yX6_link cX6_link 5 (some .int), Cond.methodLink RX6 102 yX6_linkError, Cond.instanceMethod yX6_linkError, Cond.selects RX6 yX6_linkError yX6_linkError, Cond.code yX6_linkError cX6_linkError 4 (some .int), Cond.methodLink RX6 171 yX0_has, Cond.instanceMethod yX0_has, Cond.selects RX0 yX0_has yX0_has, Cond.code yX0_has cX0_has 2 (some .boolean), Cond.methodLink RX6 251 yX6_isSide, Cond.static yX6_isSide, Cond.code yX6_isSide cX6_isSide 1 (some .boolean), Cond.methodLink RX6 254 yX0_beside, Cond.methodLink RX6 106 yX6_changeLink, Cond.instanceMethod yX6_changeLink, Cond.selects RX6 yX6_changeLink yX6_changeLink, Cond.code yX6_changeLink cX6_changeLink 6 (some .int), Cond.methodLink RX6 261 yX0_linkAt, Cond.methodLink RX6 264 yX0_isWhole]
def wsL_law_r12 : List Cond := [Cond.methodLink RX6 267 yX0_makeWhole, Cond.instanceMethod yX0_makeWhole, Cond.selects RX0 yX0_makeWhole yX0_makeWhole, Cond.code yX0_makeWhole cX0_makeWhole 5 none, Cond.constantLong RX0 41 (-1), Cond.methodLink RL 26 yX7_link, Cond.instanceMethod yX7_link, Cond.selects RX7 yX7_link yX7_link, Cond.code yX7_link cX7_link 6 (some .int), Cond.methodLink RX7 76 yX7_isBox, Cond.instanceMethod yX7_isBox, Cond.selects RX7 yX7_isBox yX7_isBox, Cond.code yX7_isBox cX7_isBox 2 (some .boolean), Cond.methodLink RX7 63 yX7_beside, Cond.instanceMethod yX7_beside, Cond.selects RX7 yX7_beside yX7_beside, Cond.code yX7_beside cX7_beside 6 (some .int), Cond.methodLink RX7 67 yX7_linkOf, Cond.instanceMethod yX7_linkOf, Cond.selects RX7 yX7_linkOf yX7_linkOf, Cond.code yX7_linkOf cX7_linkOf 4 (some .int), Cond.methodLink RL 27 yX6_send, Cond.instanceMethod yX6_send, Cond.selects RX6 yX6_send yX6_send]
def wsL_law_r13 : List Cond := [Cond.code yX6_send cX6_send 4 (some .int), Cond.fieldLink RX6 113 "MeshTurns$State" "tick" "I", Cond.methodLink RX6 109 yX6_sendError, Cond.instanceMethod yX6_sendError, Cond.selects RX6 yX6_sendError yX6_sendError, Cond.code yX6_sendError cX6_sendError 3 (some .int), Cond.methodLink RX6 201 yX5_wayLength, Cond.instanceMethod yX5_wayLength, Cond.selects RX5 yX5_wayLength yX5_wayLength, Cond.code yX5_wayLength cX5_wayLength 5 (some .int), Cond.methodLink RX5 53 yX4_length, Cond.instanceMethod yX4_length, Cond.selects RX4 yX4_length yX4_length, Cond.code yX4_length cX4_length 5 (some .int), Cond.methodLink RX5 59 yX0_distance, Cond.instanceMethod yX0_distance, Cond.selects RX0 yX0_distance yX0_distance, Cond.code yX0_distance cX0_distance 3 (some .int), Cond.methodLink RX0 22 Lib.Math.abs.name, Cond.static Lib.Math.abs.name, Cond.code Lib.Math.abs.name Lib.Math.abs.code 1 (some .int), Cond.methodLink RX6 116 yX2_add, Cond.instanceMethod yX2_add, Cond.selects RX2 yX2_add yX2_add]
def wsL_law_r14 : List Cond := [Cond.code yX2_add cX2_add 5 (some .int), Cond.methodLink RL 30 yX7_send, Cond.instanceMethod yX7_send, Cond.selects RX7 yX7_send yX7_send, Cond.code yX7_send cX7_send 5 (some .int), Cond.methodLink RX7 105 yX7_farOf, Cond.instanceMethod yX7_farOf, Cond.selects RX7 yX7_farOf yX7_farOf, Cond.code yX7_farOf cX7_farOf 3 (some .int), Cond.methodLink RX7 94 yX7_layFar, Cond.instanceMethod yX7_layFar, Cond.selects RX7 yX7_layFar yX7_layFar, Cond.code yX7_layFar cX7_layFar 10 none, Cond.methodLink RX7 90 yX7_moved, Cond.instanceMethod yX7_moved, Cond.selects RX7 yX7_moved yX7_moved, Cond.code yX7_moved cX7_moved 9 (some .int), Cond.methodLink RX7 83 yX7_isWhole, Cond.instanceMethod yX7_isWhole, Cond.selects RX7 yX7_isWhole yX7_isWhole, Cond.code yX7_isWhole cX7_isWhole 3 (some .boolean), Cond.methodLink RX7 87 yX7_isDetour, Cond.instanceMethod yX7_isDetour, Cond.selects RX7 yX7_isDetour yX7_isDetour]
def wsL_law_r15 : List Cond := [Cond.code yX7_isDetour cX7_isDetour 4 (some .boolean), Cond.methodLink RX7 80 yX7_apart, Cond.instanceMethod yX7_apart, Cond.selects RX7 yX7_apart yX7_apart, Cond.code yX7_apart cX7_apart 5 (some .int), Cond.methodLink RX7 111 yX7_book, Cond.instanceMethod yX7_book, Cond.selects RX7 yX7_book yX7_book, Cond.code yX7_book cX7_book 4 none, Cond.methodLink RL 31 yX6_ticks, Cond.instanceMethod yX6_ticks, Cond.selects RX6 yX6_ticks yX6_ticks, Cond.code yX6_ticks cX6_ticks 2 (some .int), Cond.methodLink RX6 119 yX6_isTicks, Cond.static yX6_isTicks, Cond.code yX6_isTicks cX6_isTicks 1 (some .boolean), Cond.methodLink RX6 122 yX5_passTicks, Cond.instanceMethod yX5_passTicks, Cond.selects RX5 yX5_passTicks yX5_passTicks, Cond.code yX5_passTicks cX5_passTicks 7 none, Cond.fieldLink RX5 110 "MeshTurns$Packets" "sent" "I", Cond.fieldLink RX5 88 "MeshTurns$Packets" "place" "[I", Cond.fieldLink RX5 120 "MeshTurns$Packets" "waits" "[I", Cond.methodLink RX5 113 yX5_comesInside]
def wsL_law_r16 : List Cond := [Cond.instanceMethod yX5_comesInside, Cond.selects RX5 yX5_comesInside yX5_comesInside, Cond.code yX5_comesInside cX5_comesInside 3 (some .boolean), Cond.fieldLink RX5 63 "MeshTurns$Packets" "box" "[I", Cond.methodLink RX5 98 yX5_hasRoom, Cond.instanceMethod yX5_hasRoom, Cond.selects RX5 yX5_hasRoom yX5_hasRoom, Cond.code yX5_hasRoom cX5_hasRoom 2 (some .boolean), Cond.methodLink RX5 116 yX5_movesOn, Cond.instanceMethod yX5_movesOn, Cond.selects RX5 yX5_movesOn yX5_movesOn, Cond.code yX5_movesOn cX5_movesOn 7 (some .boolean), Cond.fieldLink RX5 69 "MeshTurns$Packets" "to" "[I", Cond.fieldLink RX5 131 "MeshTurns$Packets" "arrivedIn" "[I", Cond.methodLink RX5 123 yX5_firstSide, Cond.instanceMethod yX5_firstSide, Cond.selects RX5 yX5_firstSide yX5_firstSide, Cond.code yX5_firstSide cX5_firstSide 9 (some .int), Cond.fieldLink RX5 66 "MeshTurns$Packets" "turned" "[I", Cond.methodLink RX5 72 yX5_mostMoves, Cond.instanceMethod yX5_mostMoves, Cond.selects RX5 yX5_mostMoves yX5_mostMoves, Cond.code yX5_mostMoves cX5_mostMoves 3 (some .int), Cond.fieldLink RX5 76 "MeshTurns$Packets" "detours" "[I"]
def wsL_law_r17 : List Cond := [Cond.methodLink RX5 79 Lib.Math.max.name, Cond.static Lib.Math.max.name, Cond.code Lib.Math.max.name Lib.Math.max.code 2 (some .int), Cond.methodLink RX5 84 yX4_lengthAfter, Cond.instanceMethod yX4_lengthAfter, Cond.selects RX4 yX4_lengthAfter yX4_lengthAfter, Cond.code yX4_lengthAfter cX4_lengthAfter 6 (some .int), Cond.methodLink RX4 63 yX4_length, Cond.methodLink RX5 91 yX4_boxBehind, Cond.methodLink RX5 94 yX5_letsIn, Cond.instanceMethod yX5_letsIn, Cond.selects RX5 yX5_letsIn yX5_letsIn, Cond.code yX5_letsIn cX5_letsIn 3 (some .boolean), Cond.methodLink RX5 127 yX2_noteMove, Cond.instanceMethod yX2_noteMove, Cond.selects RX2 yX2_noteMove yX2_noteMove, Cond.code yX2_noteMove cX2_noteMove 5 none, Cond.methodLink RL 35 yX7_ticks, Cond.instanceMethod yX7_ticks, Cond.selects RX7 yX7_ticks yX7_ticks, Cond.code yX7_ticks cX7_ticks 3 (some .int), Cond.methodLink RX7 128 yX7_pass, Cond.instanceMethod yX7_pass, Cond.selects RX7 yX7_pass yX7_pass]
def wsL_law_r18 : List Cond := [Cond.code yX7_pass cX7_pass 3 none, Cond.methodLink RX7 98 yX7_of, Cond.instanceMethod yX7_of, Cond.selects RX7 yX7_of yX7_of, Cond.code yX7_of cX7_of 3 (some .int), Cond.methodLink RX7 118 yX7_hasRoom, Cond.instanceMethod yX7_hasRoom, Cond.selects RX7 yX7_hasRoom yX7_hasRoom, Cond.code yX7_hasRoom cX7_hasRoom 2 (some .boolean), Cond.methodLink RX7 108 yX7_insideOf, Cond.instanceMethod yX7_insideOf, Cond.selects RX7 yX7_insideOf yX7_insideOf, Cond.code yX7_insideOf cX7_insideOf 4 (some .int), Cond.methodLink RX7 121 yX7_goesTo, Cond.instanceMethod yX7_goesTo, Cond.selects RX7 yX7_goesTo yX7_goesTo, Cond.code yX7_goesTo cX7_goesTo 5 (some .int), Cond.methodLink RX7 115 yX7_laySides, Cond.instanceMethod yX7_laySides, Cond.selects RX7 yX7_laySides yX7_laySides, Cond.code yX7_laySides cX7_laySides 8 (some .int), Cond.methodLink RX7 101 yX7_standing, Cond.instanceMethod yX7_standing, Cond.selects RX7 yX7_standing yX7_standing]
def wsL_law_r19 : List Cond := [Cond.code yX7_standing cX7_standing 2 (some .int), Cond.methodLink RX7 124 yX7_move, Cond.instanceMethod yX7_move, Cond.selects RX7 yX7_move yX7_move, Cond.code yX7_move cX7_move 6 none, Cond.methodLink RL 36 yX6_ofPacket, Cond.instanceMethod yX6_ofPacket, Cond.selects RX6 yX6_ofPacket yX6_ofPacket, Cond.code yX6_ofPacket cX6_ofPacket 4 (some .int), Cond.fieldLink RX6 129 "MeshTurns$Packets" "from" "[I", Cond.fieldLink RX6 132 "MeshTurns$Packets" "to" "[I", Cond.fieldLink RX6 135 "MeshTurns$Packets" "place" "[I", Cond.fieldLink RX6 138 "MeshTurns$Packets" "box" "[I", Cond.fieldLink RX6 141 "MeshTurns$Packets" "moves" "[I", Cond.fieldLink RX6 144 "MeshTurns$Packets" "detours" "[I", Cond.fieldLink RX6 147 "MeshTurns$Packets" "waits" "[I", Cond.fieldLink RX6 150 "MeshTurns$Packets" "sentIn" "[I", Cond.fieldLink RX6 153 "MeshTurns$Packets" "arrivedIn" "[I", Cond.fieldLink RX6 156 "MeshTurns$Packets" "turned" "[I", Cond.methodLink RX6 126 yX2_has, Cond.instanceMethod yX2_has, Cond.selects RX2 yX2_has yX2_has, Cond.code yX2_has cX2_has 2 (some .boolean), Cond.methodLink RX6 159 yX5_wayLengthOf]
def wsL_law_r20 : List Cond := [Cond.instanceMethod yX5_wayLengthOf, Cond.selects RX5 yX5_wayLengthOf yX5_wayLengthOf, Cond.code yX5_wayLengthOf cX5_wayLengthOf 4 (some .int), Cond.methodLink RX6 163 yX5_firstSide, Cond.methodLink RX6 167 yX1_holds, Cond.instanceMethod yX1_holds, Cond.selects RX1 yX1_holds yX1_holds, Cond.code yX1_holds cX1_holds 4 (some .boolean), Cond.fieldLink RX1 19 "MeshTurns$State" "packets" "LMeshTurns$Packets;", Cond.methodLink RX1 15 yX1_find, Cond.instanceMethod yX1_find, Cond.selects RX1 yX1_find yX1_find, Cond.code yX1_find cX1_find 7 none, Cond.fieldLink RX1 31 "MeshTurns$Packets" "sent" "I", Cond.fieldLink RX1 35 "MeshTurns$Packets" "place" "[I", Cond.methodLink RX1 39 yX1_canGoOn, Cond.instanceMethod yX1_canGoOn, Cond.selects RX1 yX1_canGoOn yX1_canGoOn, Cond.code yX1_canGoOn cX1_canGoOn 6 (some .boolean), Cond.fieldLink RX1 47 "MeshTurns$Packets" "box" "[I", Cond.methodLink RX1 43 yX5_isPossible, Cond.instanceMethod yX5_isPossible, Cond.selects RX5 yX5_isPossible yX5_isPossible, Cond.code yX5_isPossible cX5_isPossible 4 (some .boolean)]
def wsL_law_r21 : List Cond := [Cond.methodLink RX1 50 yX4_boxBehind, Cond.methodLink RX1 56 yX5_letsIn, Cond.methodLink RX1 60 yX1_hasFreePacket, Cond.instanceMethod yX1_hasFreePacket, Cond.selects RX1 yX1_hasFreePacket yX1_hasFreePacket, Cond.code yX1_hasFreePacket cX1_hasFreePacket 4 (some .boolean), Cond.methodLink RX1 25 yX2_has, Cond.methodLink RL 39 yX7_ofPacket, Cond.instanceMethod yX7_ofPacket, Cond.selects RX7 yX7_ofPacket yX7_ofPacket, Cond.code yX7_ofPacket cX7_ofPacket 3 (some .int), Cond.methodLink RX7 134 yX7_isPacket, Cond.instanceMethod yX7_isPacket, Cond.selects RX7 yX7_isPacket yX7_isPacket, Cond.code yX7_isPacket cX7_isPacket 2 (some .boolean), Cond.methodLink RX7 137 yX7_lengthOf, Cond.instanceMethod yX7_lengthOf, Cond.selects RX7 yX7_lengthOf yX7_lengthOf, Cond.code yX7_lengthOf cX7_lengthOf 2 (some .int), Cond.methodLink RX7 140 yX7_layStuck, Cond.instanceMethod yX7_layStuck, Cond.selects RX7 yX7_layStuck yX7_layStuck, Cond.code yX7_layStuck cX7_layStuck 4 (some .int), Cond.methodLink RX7 131 yX7_isFree]
def wsL_law_r22 : List Cond := [Cond.instanceMethod yX7_isFree, Cond.selects RX7 yX7_isFree yX7_isFree, Cond.code yX7_isFree cX7_isFree 7 (some .boolean), Cond.methodLink RL 40 yX6_ofBox, Cond.instanceMethod yX6_ofBox, Cond.selects RX6 yX6_ofBox yX6_ofBox, Cond.code yX6_ofBox cX6_ofBox 3 (some .int), Cond.fieldLink RX6 178 "MeshTurns$State" "movesFrom" "[I", Cond.methodLink RX6 172 yX2_countAt, Cond.instanceMethod yX2_countAt, Cond.selects RX2 yX2_countAt yX2_countAt, Cond.code yX2_countAt cX2_countAt 5 (some .int), Cond.methodLink RX6 175 yX6_linkState, Cond.instanceMethod yX6_linkState, Cond.selects RX6 yX6_linkState yX6_linkState, Cond.code yX6_linkState cX6_linkState 4 (some .int), Cond.methodLink RL 43 yX7_ofBox, Cond.instanceMethod yX7_ofBox, Cond.selects RX7 yX7_ofBox yX7_ofBox, Cond.code yX7_ofBox cX7_ofBox 3 (some .int), Cond.methodLink RX7 143 yX7_packetsOf, Cond.instanceMethod yX7_packetsOf, Cond.selects RX7 yX7_packetsOf yX7_packetsOf, Cond.code yX7_packetsOf cX7_packetsOf 5 (some .int)]
def wsL_law_r23 : List Cond := [Cond.methodLink RL 44 yX6_count, Cond.instanceMethod yX6_count, Cond.selects RX6 yX6_count yX6_count, Cond.code yX6_count cX6_count 3 (some .int), Cond.fieldLink RX6 181 "MeshTurns$Grid" "columns" "I", Cond.fieldLink RX6 198 "MeshTurns$Pad" "length" "I", Cond.methodLink RX6 184 yX2_countIn, Cond.instanceMethod yX2_countIn, Cond.selects RX2 yX2_countIn yX2_countIn, Cond.code yX2_countIn cX2_countIn 4 (some .int), Cond.methodLink RX6 187 yX2_sum, Cond.instanceMethod yX2_sum, Cond.selects RX2 yX2_sum yX2_sum, Cond.code yX2_sum cX2_sum 4 (some .int), Cond.methodLink RX6 191 yX1_size, Cond.instanceMethod yX1_size, Cond.selects RX1 yX1_size yX1_size, Cond.code yX1_size cX1_size 5 (some .int), Cond.methodLink RX6 195 yX0_brokenLinks, Cond.instanceMethod yX0_brokenLinks, Cond.selects RX0 yX0_brokenLinks yX0_brokenLinks, Cond.code yX0_brokenLinks cX0_brokenLinks 1 (some .int), Cond.methodLink RX0 43 yJ13_bitCount_95d88, Cond.static yJ13_bitCount_95d88]
def wsL_law_r24 : List Cond := [Cond.initialized RJ13, Cond.code yJ13_bitCount_95d88 cJ13_bitCount_95d88 2 (some .int), Cond.constantLong RJ13 314 (6148914691236517205), Cond.constantLong RJ13 316 (3689348814741910323), Cond.constantLong RJ13 318 (1085102592571150095), Cond.methodLink RL 47 yX7_count, Cond.instanceMethod yX7_count, Cond.selects RX7 yX7_count yX7_count, Cond.code yX7_count cX7_count 2 (some .int), Cond.fieldLink RX7 152 "MeshTurnsModel" "signs" "I", Cond.methodLink RX7 146 yX7_sum, Cond.instanceMethod yX7_sum, Cond.selects RX7 yX7_sum yX7_sum, Cond.code yX7_sum cX7_sum 4 (some .int), Cond.methodLink RX7 149 yX7_broken, Cond.instanceMethod yX7_broken, Cond.selects RX7 yX7_broken yX7_broken, Cond.code yX7_broken cX7_broken 3 (some .int), Cond.methodLink RL 48 yX6_leastWay, Cond.instanceMethod yX6_leastWay, Cond.selects RX6 yX6_leastWay yX6_leastWay, Cond.code yX6_leastWay cX6_leastWay 3 (some .int), Cond.methodLink RL 51 yX7_leastWay, Cond.instanceMethod yX7_leastWay]
def wsL_law_r25 : List Cond := [Cond.selects RX7 yX7_leastWay yX7_leastWay, Cond.code yX7_leastWay cX7_leastWay 3 (some .int), Cond.methodLink RL 52 yX6_ways, Cond.instanceMethod yX6_ways, Cond.selects RX6 yX6_ways yX6_ways, Cond.code yX6_ways cX6_ways 3 (some .int), Cond.methodLink RX6 205 yX4_shortestWays, Cond.instanceMethod yX4_shortestWays, Cond.selects RX4 yX4_shortestWays yX4_shortestWays, Cond.code yX4_shortestWays cX4_shortestWays 3 (some .int), Cond.methodLink RL 55 yX7_ways, Cond.instanceMethod yX7_ways, Cond.selects RX7 yX7_ways yX7_ways, Cond.code yX7_ways cX7_ways 3 (some .int), Cond.methodLink RL 56 yX6_pairs, Cond.instanceMethod yX6_pairs, Cond.selects RX6 yX6_pairs yX6_pairs, Cond.code yX6_pairs cX6_pairs 1 (some .int), Cond.methodLink RX6 208 yX5_connectedPairs, Cond.instanceMethod yX5_connectedPairs, Cond.selects RX5 yX5_connectedPairs yX5_connectedPairs, Cond.code yX5_connectedPairs cX5_connectedPairs 6 (some .int), Cond.methodLink RX5 102 yX0_boxes, Cond.methodLink RX5 106 yX5_wayLength]
def wsL_law_r26 : List Cond := [Cond.methodLink RL 60 yX7_pairs, Cond.instanceMethod yX7_pairs, Cond.selects RX7 yX7_pairs yX7_pairs, Cond.code yX7_pairs cX7_pairs 1 (some .int), Cond.methodLink RX7 155 yX7_pairsNow, Cond.instanceMethod yX7_pairsNow, Cond.selects RX7 yX7_pairsNow yX7_pairsNow, Cond.code yX7_pairsNow cX7_pairsNow 4 (some .int), Cond.methodLink RL 61 yX6_worstLink, Cond.instanceMethod yX6_worstLink, Cond.selects RX6 yX6_worstLink yX6_worstLink, Cond.code yX6_worstLink cX6_worstLink 3 (some .int), Cond.methodLink RX6 212 yX6_findWorstLink, Cond.instanceMethod yX6_findWorstLink, Cond.selects RX6 yX6_findWorstLink yX6_findWorstLink, Cond.code yX6_findWorstLink cX6_findWorstLink 5 (some .int), Cond.methodLink RX6 283 yX0_isLink, Cond.instanceMethod yX0_isLink, Cond.selects RX0 yX0_isLink yX0_isLink, Cond.code yX0_isLink cX0_isLink 2 (some .boolean), Cond.methodLink RX0 35 yX0_boxOfLink, Cond.static yX0_boxOfLink, Cond.code yX0_boxOfLink cX0_boxOfLink 1 (some .int), Cond.methodLink RX0 38 yX0_sideOfLink]
def wsL_law_r27 : List Cond := [Cond.static yX0_sideOfLink, Cond.code yX0_sideOfLink cX0_sideOfLink 1 (some .int), Cond.methodLink RX6 221 yX6_pairsWithout, Cond.instanceMethod yX6_pairsWithout, Cond.selects RX6 yX6_pairsWithout yX6_pairsWithout, Cond.code yX6_pairsWithout cX6_pairsWithout 2 (some .int), Cond.methodLink RX6 215 yX0_boxOfLink, Cond.methodLink RX6 218 yX0_sideOfLink, Cond.methodLink RL 64 yX7_worstLink, Cond.instanceMethod yX7_worstLink, Cond.selects RX7 yX7_worstLink yX7_worstLink, Cond.code yX7_worstLink cX7_worstLink 7 (some .int), Cond.methodLink RL 65 yX6_busiest, Cond.instanceMethod yX6_busiest, Cond.selects RX6 yX6_busiest yX6_busiest, Cond.code yX6_busiest cX6_busiest 4 (some .int), Cond.methodLink RL 68 yX7_busiest, Cond.instanceMethod yX7_busiest, Cond.selects RX7 yX7_busiest yX7_busiest, Cond.code yX7_busiest cX7_busiest 4 (some .int), Cond.methodLink RL 69 yX6_arrivesIn, Cond.instanceMethod yX6_arrivesIn, Cond.selects RX6 yX6_arrivesIn yX6_arrivesIn, Cond.code yX6_arrivesIn cX6_arrivesIn 3 (some .int)]
def wsL_law_r28 : List Cond := [Cond.methodLink RL 72 yX7_arrivesIn, Cond.instanceMethod yX7_arrivesIn, Cond.selects RX7 yX7_arrivesIn yX7_arrivesIn, Cond.code yX7_arrivesIn cX7_arrivesIn 4 (some .int), Cond.methodLink RX7 158 yX7_keep, Cond.instanceMethod yX7_keep, Cond.selects RX7 yX7_keep yX7_keep, Cond.code yX7_keep cX7_keep 2 none, Cond.methodLink RX7 161 yX7_comeBack, Cond.instanceMethod yX7_comeBack, Cond.selects RX7 yX7_comeBack yX7_comeBack, Cond.code yX7_comeBack cX7_comeBack 2 none, Cond.methodLink RL 73 yX6_arrivedBy, Cond.instanceMethod yX6_arrivedBy, Cond.selects RX6 yX6_arrivedBy yX6_arrivedBy, Cond.code yX6_arrivedBy cX6_arrivedBy 2 (some .int), Cond.methodLink RL 76 yX7_arrivedBy, Cond.instanceMethod yX7_arrivedBy, Cond.selects RX7 yX7_arrivedBy yX7_arrivedBy, Cond.code yX7_arrivedBy cX7_arrivedBy 3 (some .int), Cond.methodLink RL 79 yX6_put, Cond.instanceMethod yX6_put, Cond.selects RX6 yX6_put yX6_put, Cond.code yX6_put cX6_put 4 (some .int)]
def wsL_law_r29 : List Cond := [Cond.methodLink RX6 228 yX3_countCharacters, Cond.static yX3_countCharacters, Cond.code yX3_countCharacters cX3_countCharacters 7 (some .int), Cond.constantLong RX3 35 (255), Cond.methodLink RX6 232 yX3_fits, Cond.instanceMethod yX3_fits, Cond.selects RX3 yX3_fits yX3_fits, Cond.code yX3_fits cX3_fits 2 (some .boolean), Cond.methodLink RX6 235 yX3_append, Cond.instanceMethod yX3_append, Cond.selects RX3 yX3_append yX3_append, Cond.code yX3_append cX3_append 6 none, Cond.methodLink RX3 37 yX3_fits, Cond.methodLink RL 83 yX7_put, Cond.instanceMethod yX7_put, Cond.selects RX7 yX7_put yX7_put, Cond.code yX7_put cX7_put 7 (some .int), Cond.constantLong RX7 185 (255), Cond.methodLink RL 84 yX6_wipe, Cond.instanceMethod yX6_wipe, Cond.selects RX6 yX6_wipe yX6_wipe, Cond.code yX6_wipe cX6_wipe 2 (some .int), Cond.methodLink RL 87 yX7_wipe, Cond.instanceMethod yX7_wipe]
def wsL_law_r30 : List Cond := [Cond.selects RX7 yX7_wipe yX7_wipe, Cond.code yX7_wipe cX7_wipe 2 (some .int), Cond.methodLink RL 88 yX6_fault, Cond.instanceMethod yX6_fault, Cond.selects RX6 yX6_fault yX6_fault, Cond.code yX6_fault cX6_fault 1 (some .int), Cond.methodLink RX6 239 yX3_readOrders, Cond.instanceMethod yX3_readOrders, Cond.selects RX3 yX3_readOrders yX3_readOrders, Cond.code yX3_readOrders cX3_readOrders 2 (some .int), Cond.methodLink RX3 41 yX3_readOrder, Cond.instanceMethod yX3_readOrder, Cond.selects RX3 yX3_readOrder yX3_readOrder, Cond.code yX3_readOrder cX3_readOrder 4 (some .boolean), Cond.methodLink RX3 49 yX3_signHere, Cond.instanceMethod yX3_signHere, Cond.selects RX3 yX3_signHere yX3_signHere, Cond.code yX3_signHere cX3_signHere 1 (some .char), Cond.methodLink RX3 53 yX3_readNumber, Cond.instanceMethod yX3_readNumber, Cond.selects RX3 yX3_readNumber yX3_readNumber, Cond.code yX3_readNumber cX3_readNumber 3 (some .int), Cond.methodLink RX3 60 yX3_readDigit, Cond.instanceMethod yX3_readDigit]
def wsL_law_r31 : List Cond := [Cond.selects RX3 yX3_readDigit yX3_readDigit, Cond.code yX3_readDigit cX3_readDigit 2 (some .int), Cond.methodLink RX3 45 yX3_readSign, Cond.instanceMethod yX3_readSign, Cond.selects RX3 yX3_readSign yX3_readSign, Cond.code yX3_readSign cX3_readSign 2 (some .boolean), Cond.methodLink RX3 57 yX3_readSide, Cond.instanceMethod yX3_readSide, Cond.selects RX3 yX3_readSide yX3_readSide, Cond.code yX3_readSide cX3_readSide 3 (some .int), Cond.methodLink RX3 63 yX3_sideOfSign, Cond.static yX3_sideOfSign, Cond.code yX3_sideOfSign cX3_sideOfSign 1 (some .int), Cond.methodLink RL 91 yX7_fault, Cond.instanceMethod yX7_fault, Cond.selects RX7 yX7_fault yX7_fault, Cond.code yX7_fault cX7_fault 1 (some .int), Cond.methodLink RX7 187 yX7_faultOf, Cond.instanceMethod yX7_faultOf, Cond.selects RX7 yX7_faultOf yX7_faultOf, Cond.code yX7_faultOf cX7_faultOf 1 (some .int), Cond.fieldLink RX7 164 "MeshTurnsModel" "place" "I", Cond.fieldLink RX7 173 "MeshTurnsModel" "read" "I", Cond.fieldLink RX7 170 "MeshTurnsModel" "isWrong" "Z"]
def wsL_law_r32 : List Cond := [Cond.methodLink RX7 182 yX7_readOne, Cond.instanceMethod yX7_readOne, Cond.selects RX7 yX7_readOne yX7_readOne, Cond.code yX7_readOne cX7_readOne 3 none, Cond.methodLink RX7 167 yX7_sign, Cond.instanceMethod yX7_sign, Cond.selects RX7 yX7_sign yX7_sign, Cond.code yX7_sign cX7_sign 1 (some .int), Cond.methodLink RX7 176 yX7_number, Cond.instanceMethod yX7_number, Cond.selects RX7 yX7_number yX7_number, Cond.code yX7_number cX7_number 2 (some .int), Cond.methodLink RX7 179 yX7_side, Cond.instanceMethod yX7_side, Cond.selects RX7 yX7_side yX7_side, Cond.code yX7_side cX7_side 3 (some .int), Cond.methodLink RL 92 yX6_carryOut, Cond.instanceMethod yX6_carryOut, Cond.selects RX6 yX6_carryOut yX6_carryOut, Cond.code yX6_carryOut cX6_carryOut 2 (some .int), Cond.fieldLink RX6 242 "MeshTurns$Pad" "orders" "I", Cond.methodLink RX6 245 yX6_obey, Cond.instanceMethod yX6_obey, Cond.selects RX6 yX6_obey yX6_obey]
def wsL_law_r33 : List Cond := [Cond.code yX6_obey cX6_obey 4 (some .boolean), Cond.fieldLink RX6 271 "MeshTurns$Pad" "firsts" "[I", Cond.fieldLink RX6 274 "MeshTurns$Pad" "seconds" "[I", Cond.fieldLink RX6 277 "MeshTurns$Pad" "kinds" "[I", Cond.methodLink RL 95 yX7_carryOut, Cond.instanceMethod yX7_carryOut, Cond.selects RX7 yX7_carryOut yX7_carryOut, Cond.code yX7_carryOut cX7_carryOut 2 (some .int), Cond.methodLink RX7 199 yX7_carry, Cond.instanceMethod yX7_carry, Cond.selects RX7 yX7_carry yX7_carry, Cond.code yX7_carry cX7_carry 4 (some .int), Cond.methodLink RX7 190 yX7_send, Cond.methodLink RX7 193 yX7_link, Cond.methodLink RX7 196 yX7_ticks, Cond.methodLink RL 96 yX6_undo, Cond.instanceMethod yX6_undo, Cond.selects RX6 yX6_undo yX6_undo, Cond.code yX6_undo cX6_undo 1 (some .int), Cond.methodLink RL 99 yX7_undo, Cond.instanceMethod yX7_undo, Cond.selects RX7 yX7_undo yX7_undo, Cond.code yX7_undo cX7_undo 2 (some .int), Cond.methodLink RL 100 yX6_save]
def wsL_law_r34 : List Cond := [Cond.instanceMethod yX6_save, Cond.selects RX6 yX6_save yX6_save, Cond.code yX6_save cX6_save 2 (some .int), Cond.methodLink RX6 248 yX6_isSlot, Cond.static yX6_isSlot, Cond.code yX6_isSlot cX6_isSlot 1 (some .boolean), Cond.methodLink RL 103 yX7_save, Cond.instanceMethod yX7_save, Cond.selects RX7 yX7_save yX7_save, Cond.code yX7_save cX7_save 3 (some .int), Cond.methodLink RL 104 yX6_restore, Cond.instanceMethod yX6_restore, Cond.selects RX6 yX6_restore yX6_restore, Cond.code yX6_restore cX6_restore 2 (some .int), Cond.methodLink RL 107 yX7_restore, Cond.instanceMethod yX7_restore, Cond.selects RX7 yX7_restore yX7_restore, Cond.code yX7_restore cX7_restore 3 (some .int)]
def wsL_law : List Cond := (wsL_law_r1 ++ (wsL_law_r2 ++ (wsL_law_r3 ++ (wsL_law_r4 ++ (wsL_law_r5 ++ (wsL_law_r6 ++ (wsL_law_r7 ++ (wsL_law_r8 ++ (wsL_law_r9 ++ (wsL_law_r10 ++ (wsL_law_r11 ++ (wsL_law_r12 ++ (wsL_law_r13 ++ (wsL_law_r14 ++ (wsL_law_r15 ++ (wsL_law_r16 ++ (wsL_law_r17 ++ (wsL_law_r18 ++ (wsL_law_r19 ++ (wsL_law_r20 ++ (wsL_law_r21 ++ (wsL_law_r22 ++ (wsL_law_r23 ++ (wsL_law_r24 ++ (wsL_law_r25 ++ (wsL_law_r26 ++ (wsL_law_r27 ++ (wsL_law_r28 ++ (wsL_law_r29 ++ (wsL_law_r30 ++ (wsL_law_r31 ++ (wsL_law_r32 ++ (wsL_law_r33 ++ wsL_law_r34))))))))))))))))))))))))))))))))) ++ wsX60 ++ wsX70 ++ wsX50 ++ wsX40 ++ wsX10 ++ wsX30 ++ wsX00 ++ wsX20 ++ ([] : List Cond)
theorem zsub_1 : ∀ w ∈ wsL_law_r1, w ∈ wsL_law := fun _ h => List.mem_append_left _ (List.mem_append_left _ (List.mem_append_left _ (List.mem_append_left _ (List.mem_append_left _ (List.mem_append_left _ (List.mem_append_left _ (List.mem_append_left _ (List.mem_append_left _ (List.mem_append_left _ h)))))))))
theorem zsub_2 : ∀ w ∈ wsL_law_r2, w ∈ wsL_law := fun _ h => List.mem_append_left _ (List.mem_append_left _ (List.mem_append_left _ (List.mem_append_left _ (List.mem_append_left _ (List.mem_append_left _ (List.mem_append_left _ (List.mem_append_left _ (List.mem_append_left _ (List.mem_append_right _ (List.mem_append_left _ h))))))))))
theorem zsub_3 : ∀ w ∈ wsL_law_r3, w ∈ wsL_law := fun _ h => List.mem_append_left _ (List.mem_append_left _ (List.mem_append_left _ (List.mem_append_left _ (List.mem_append_left _ (List.mem_append_left _ (List.mem_append_left _ (List.mem_append_left _ (List.mem_append_left _ (List.mem_append_right _ (List.mem_append_right _ (List.mem_append_left _ h)))))))))))
theorem zsub_4 : ∀ w ∈ wsL_law_r4, w ∈ wsL_law := fun _ h => List.mem_append_left _ (List.mem_append_left _ (List.mem_append_left _ (List.mem_append_left _ (List.mem_append_left _ (List.mem_append_left _ (List.mem_append_left _ (List.mem_append_left _ (List.mem_append_left _ (List.mem_append_right _ (List.mem_append_right _ (List.mem_append_right _ (List.mem_append_left _ h))))))))))))
theorem zsub_5 : ∀ w ∈ wsL_law_r5, w ∈ wsL_law := fun _ h => List.mem_append_left _ (List.mem_append_left _ (List.mem_append_left _ (List.mem_append_left _ (List.mem_append_left _ (List.mem_append_left _ (List.mem_append_left _ (List.mem_append_left _ (List.mem_append_left _ (List.mem_append_right _ (List.mem_append_right _ (List.mem_append_right _ (List.mem_append_right _ (List.mem_append_left _ h)))))))))))))
theorem zsub_6 : ∀ w ∈ wsL_law_r6, w ∈ wsL_law := fun _ h => List.mem_append_left _ (List.mem_append_left _ (List.mem_append_left _ (List.mem_append_left _ (List.mem_append_left _ (List.mem_append_left _ (List.mem_append_left _ (List.mem_append_left _ (List.mem_append_left _ (List.mem_append_right _ (List.mem_append_right _ (List.mem_append_right _ (List.mem_append_right _ (List.mem_append_right _ (List.mem_append_left _ h))))))))))))))
theorem zsub_7 : ∀ w ∈ wsL_law_r7, w ∈ wsL_law := fun _ h => List.mem_append_left _ (List.mem_append_left _ (List.mem_append_left _ (List.mem_append_left _ (List.mem_append_left _ (List.mem_append_left _ (List.mem_append_left _ (List.mem_append_left _ (List.mem_append_left _ (List.mem_append_right _ (List.mem_append_right _ (List.mem_append_right _ (List.mem_append_right _ (List.mem_append_right _ (List.mem_append_right _ (List.mem_append_left _ h)))))))))))))))
theorem zsub_8 : ∀ w ∈ wsL_law_r8, w ∈ wsL_law := fun _ h => List.mem_append_left _ (List.mem_append_left _ (List.mem_append_left _ (List.mem_append_left _ (List.mem_append_left _ (List.mem_append_left _ (List.mem_append_left _ (List.mem_append_left _ (List.mem_append_left _ (List.mem_append_right _ (List.mem_append_right _ (List.mem_append_right _ (List.mem_append_right _ (List.mem_append_right _ (List.mem_append_right _ (List.mem_append_right _ (List.mem_append_left _ h))))))))))))))))
theorem zsub_9 : ∀ w ∈ wsL_law_r9, w ∈ wsL_law := fun _ h => List.mem_append_left _ (List.mem_append_left _ (List.mem_append_left _ (List.mem_append_left _ (List.mem_append_left _ (List.mem_append_left _ (List.mem_append_left _ (List.mem_append_left _ (List.mem_append_left _ (List.mem_append_right _ (List.mem_append_right _ (List.mem_append_right _ (List.mem_append_right _ (List.mem_append_right _ (List.mem_append_right _ (List.mem_append_right _ (List.mem_append_right _ (List.mem_append_left _ h)))))))))))))))))
theorem zsub_10 : ∀ w ∈ wsL_law_r10, w ∈ wsL_law := fun _ h => List.mem_append_left _ (List.mem_append_left _ (List.mem_append_left _ (List.mem_append_left _ (List.mem_append_left _ (List.mem_append_left _ (List.mem_append_left _ (List.mem_append_left _ (List.mem_append_left _ (List.mem_append_right _ (List.mem_append_right _ (List.mem_append_right _ (List.mem_append_right _ (List.mem_append_right _ (List.mem_append_right _ (List.mem_append_right _ (List.mem_append_right _ (List.mem_append_right _ (List.mem_append_left _ h))))))))))))))))))
theorem zsub_11 : ∀ w ∈ wsL_law_r11, w ∈ wsL_law := fun _ h => List.mem_append_left _ (List.mem_append_left _ (List.mem_append_left _ (List.mem_append_left _ (List.mem_append_left _ (List.mem_append_left _ (List.mem_append_left _ (List.mem_append_left _ (List.mem_append_left _ (List.mem_append_right _ (List.mem_append_right _ (List.mem_append_right _ (List.mem_append_right _ (List.mem_append_right _ (List.mem_append_right _ (List.mem_append_right _ (List.mem_append_right _ (List.mem_append_right _ (List.mem_append_right _ (List.mem_append_left _ h)))))))))))))))))))
theorem zsub_12 : ∀ w ∈ wsL_law_r12, w ∈ wsL_law := fun _ h => List.mem_append_left _ (List.mem_append_left _ (List.mem_append_left _ (List.mem_append_left _ (List.mem_append_left _ (List.mem_append_left _ (List.mem_append_left _ (List.mem_append_left _ (List.mem_append_left _ (List.mem_append_right _ (List.mem_append_right _ (List.mem_append_right _ (List.mem_append_right _ (List.mem_append_right _ (List.mem_append_right _ (List.mem_append_right _ (List.mem_append_right _ (List.mem_append_right _ (List.mem_append_right _ (List.mem_append_right _ (List.mem_append_left _ h))))))))))))))))))))
theorem zsub_13 : ∀ w ∈ wsL_law_r13, w ∈ wsL_law := fun _ h => List.mem_append_left _ (List.mem_append_left _ (List.mem_append_left _ (List.mem_append_left _ (List.mem_append_left _ (List.mem_append_left _ (List.mem_append_left _ (List.mem_append_left _ (List.mem_append_left _ (List.mem_append_right _ (List.mem_append_right _ (List.mem_append_right _ (List.mem_append_right _ (List.mem_append_right _ (List.mem_append_right _ (List.mem_append_right _ (List.mem_append_right _ (List.mem_append_right _ (List.mem_append_right _ (List.mem_append_right _ (List.mem_append_right _ (List.mem_append_left _ h)))))))))))))))))))))
theorem zsub_14 : ∀ w ∈ wsL_law_r14, w ∈ wsL_law := fun _ h => List.mem_append_left _ (List.mem_append_left _ (List.mem_append_left _ (List.mem_append_left _ (List.mem_append_left _ (List.mem_append_left _ (List.mem_append_left _ (List.mem_append_left _ (List.mem_append_left _ (List.mem_append_right _ (List.mem_append_right _ (List.mem_append_right _ (List.mem_append_right _ (List.mem_append_right _ (List.mem_append_right _ (List.mem_append_right _ (List.mem_append_right _ (List.mem_append_right _ (List.mem_append_right _ (List.mem_append_right _ (List.mem_append_right _ (List.mem_append_right _ (List.mem_append_left _ h))))))))))))))))))))))
theorem zsub_15 : ∀ w ∈ wsL_law_r15, w ∈ wsL_law := fun _ h => List.mem_append_left _ (List.mem_append_left _ (List.mem_append_left _ (List.mem_append_left _ (List.mem_append_left _ (List.mem_append_left _ (List.mem_append_left _ (List.mem_append_left _ (List.mem_append_left _ (List.mem_append_right _ (List.mem_append_right _ (List.mem_append_right _ (List.mem_append_right _ (List.mem_append_right _ (List.mem_append_right _ (List.mem_append_right _ (List.mem_append_right _ (List.mem_append_right _ (List.mem_append_right _ (List.mem_append_right _ (List.mem_append_right _ (List.mem_append_right _ (List.mem_append_right _ (List.mem_append_left _ h)))))))))))))))))))))))
theorem zsub_16 : ∀ w ∈ wsL_law_r16, w ∈ wsL_law := fun _ h => List.mem_append_left _ (List.mem_append_left _ (List.mem_append_left _ (List.mem_append_left _ (List.mem_append_left _ (List.mem_append_left _ (List.mem_append_left _ (List.mem_append_left _ (List.mem_append_left _ (List.mem_append_right _ (List.mem_append_right _ (List.mem_append_right _ (List.mem_append_right _ (List.mem_append_right _ (List.mem_append_right _ (List.mem_append_right _ (List.mem_append_right _ (List.mem_append_right _ (List.mem_append_right _ (List.mem_append_right _ (List.mem_append_right _ (List.mem_append_right _ (List.mem_append_right _ (List.mem_append_right _ (List.mem_append_left _ h))))))))))))))))))))))))
theorem zsub_17 : ∀ w ∈ wsL_law_r17, w ∈ wsL_law := fun _ h => List.mem_append_left _ (List.mem_append_left _ (List.mem_append_left _ (List.mem_append_left _ (List.mem_append_left _ (List.mem_append_left _ (List.mem_append_left _ (List.mem_append_left _ (List.mem_append_left _ (List.mem_append_right _ (List.mem_append_right _ (List.mem_append_right _ (List.mem_append_right _ (List.mem_append_right _ (List.mem_append_right _ (List.mem_append_right _ (List.mem_append_right _ (List.mem_append_right _ (List.mem_append_right _ (List.mem_append_right _ (List.mem_append_right _ (List.mem_append_right _ (List.mem_append_right _ (List.mem_append_right _ (List.mem_append_right _ (List.mem_append_left _ h)))))))))))))))))))))))))
theorem zsub_18 : ∀ w ∈ wsL_law_r18, w ∈ wsL_law := fun _ h => List.mem_append_left _ (List.mem_append_left _ (List.mem_append_left _ (List.mem_append_left _ (List.mem_append_left _ (List.mem_append_left _ (List.mem_append_left _ (List.mem_append_left _ (List.mem_append_left _ (List.mem_append_right _ (List.mem_append_right _ (List.mem_append_right _ (List.mem_append_right _ (List.mem_append_right _ (List.mem_append_right _ (List.mem_append_right _ (List.mem_append_right _ (List.mem_append_right _ (List.mem_append_right _ (List.mem_append_right _ (List.mem_append_right _ (List.mem_append_right _ (List.mem_append_right _ (List.mem_append_right _ (List.mem_append_right _ (List.mem_append_right _ (List.mem_append_left _ h))))))))))))))))))))))))))
theorem zsub_19 : ∀ w ∈ wsL_law_r19, w ∈ wsL_law := fun _ h => List.mem_append_left _ (List.mem_append_left _ (List.mem_append_left _ (List.mem_append_left _ (List.mem_append_left _ (List.mem_append_left _ (List.mem_append_left _ (List.mem_append_left _ (List.mem_append_left _ (List.mem_append_right _ (List.mem_append_right _ (List.mem_append_right _ (List.mem_append_right _ (List.mem_append_right _ (List.mem_append_right _ (List.mem_append_right _ (List.mem_append_right _ (List.mem_append_right _ (List.mem_append_right _ (List.mem_append_right _ (List.mem_append_right _ (List.mem_append_right _ (List.mem_append_right _ (List.mem_append_right _ (List.mem_append_right _ (List.mem_append_right _ (List.mem_append_right _ (List.mem_append_left _ h)))))))))))))))))))))))))))
theorem zsub_20 : ∀ w ∈ wsL_law_r20, w ∈ wsL_law := fun _ h => List.mem_append_left _ (List.mem_append_left _ (List.mem_append_left _ (List.mem_append_left _ (List.mem_append_left _ (List.mem_append_left _ (List.mem_append_left _ (List.mem_append_left _ (List.mem_append_left _ (List.mem_append_right _ (List.mem_append_right _ (List.mem_append_right _ (List.mem_append_right _ (List.mem_append_right _ (List.mem_append_right _ (List.mem_append_right _ (List.mem_append_right _ (List.mem_append_right _ (List.mem_append_right _ (List.mem_append_right _ (List.mem_append_right _ (List.mem_append_right _ (List.mem_append_right _ (List.mem_append_right _ (List.mem_append_right _ (List.mem_append_right _ (List.mem_append_right _ (List.mem_append_right _ (List.mem_append_left _ h))))))))))))))))))))))))))))
theorem zsub_21 : ∀ w ∈ wsL_law_r21, w ∈ wsL_law := fun _ h => List.mem_append_left _ (List.mem_append_left _ (List.mem_append_left _ (List.mem_append_left _ (List.mem_append_left _ (List.mem_append_left _ (List.mem_append_left _ (List.mem_append_left _ (List.mem_append_left _ (List.mem_append_right _ (List.mem_append_right _ (List.mem_append_right _ (List.mem_append_right _ (List.mem_append_right _ (List.mem_append_right _ (List.mem_append_right _ (List.mem_append_right _ (List.mem_append_right _ (List.mem_append_right _ (List.mem_append_right _ (List.mem_append_right _ (List.mem_append_right _ (List.mem_append_right _ (List.mem_append_right _ (List.mem_append_right _ (List.mem_append_right _ (List.mem_append_right _ (List.mem_append_right _ (List.mem_append_right _ (List.mem_append_left _ h)))))))))))))))))))))))))))))
theorem zsub_22 : ∀ w ∈ wsL_law_r22, w ∈ wsL_law := fun _ h => List.mem_append_left _ (List.mem_append_left _ (List.mem_append_left _ (List.mem_append_left _ (List.mem_append_left _ (List.mem_append_left _ (List.mem_append_left _ (List.mem_append_left _ (List.mem_append_left _ (List.mem_append_right _ (List.mem_append_right _ (List.mem_append_right _ (List.mem_append_right _ (List.mem_append_right _ (List.mem_append_right _ (List.mem_append_right _ (List.mem_append_right _ (List.mem_append_right _ (List.mem_append_right _ (List.mem_append_right _ (List.mem_append_right _ (List.mem_append_right _ (List.mem_append_right _ (List.mem_append_right _ (List.mem_append_right _ (List.mem_append_right _ (List.mem_append_right _ (List.mem_append_right _ (List.mem_append_right _ (List.mem_append_right _ (List.mem_append_left _ h))))))))))))))))))))))))))))))
theorem zsub_23 : ∀ w ∈ wsL_law_r23, w ∈ wsL_law := fun _ h => List.mem_append_left _ (List.mem_append_left _ (List.mem_append_left _ (List.mem_append_left _ (List.mem_append_left _ (List.mem_append_left _ (List.mem_append_left _ (List.mem_append_left _ (List.mem_append_left _ (List.mem_append_right _ (List.mem_append_right _ (List.mem_append_right _ (List.mem_append_right _ (List.mem_append_right _ (List.mem_append_right _ (List.mem_append_right _ (List.mem_append_right _ (List.mem_append_right _ (List.mem_append_right _ (List.mem_append_right _ (List.mem_append_right _ (List.mem_append_right _ (List.mem_append_right _ (List.mem_append_right _ (List.mem_append_right _ (List.mem_append_right _ (List.mem_append_right _ (List.mem_append_right _ (List.mem_append_right _ (List.mem_append_right _ (List.mem_append_right _ (List.mem_append_left _ h)))))))))))))))))))))))))))))))
theorem zsub_24 : ∀ w ∈ wsL_law_r24, w ∈ wsL_law := fun _ h => List.mem_append_left _ (List.mem_append_left _ (List.mem_append_left _ (List.mem_append_left _ (List.mem_append_left _ (List.mem_append_left _ (List.mem_append_left _ (List.mem_append_left _ (List.mem_append_left _ (List.mem_append_right _ (List.mem_append_right _ (List.mem_append_right _ (List.mem_append_right _ (List.mem_append_right _ (List.mem_append_right _ (List.mem_append_right _ (List.mem_append_right _ (List.mem_append_right _ (List.mem_append_right _ (List.mem_append_right _ (List.mem_append_right _ (List.mem_append_right _ (List.mem_append_right _ (List.mem_append_right _ (List.mem_append_right _ (List.mem_append_right _ (List.mem_append_right _ (List.mem_append_right _ (List.mem_append_right _ (List.mem_append_right _ (List.mem_append_right _ (List.mem_append_right _ (List.mem_append_left _ h))))))))))))))))))))))))))))))))
theorem zsub_25 : ∀ w ∈ wsL_law_r25, w ∈ wsL_law := fun _ h => List.mem_append_left _ (List.mem_append_left _ (List.mem_append_left _ (List.mem_append_left _ (List.mem_append_left _ (List.mem_append_left _ (List.mem_append_left _ (List.mem_append_left _ (List.mem_append_left _ (List.mem_append_right _ (List.mem_append_right _ (List.mem_append_right _ (List.mem_append_right _ (List.mem_append_right _ (List.mem_append_right _ (List.mem_append_right _ (List.mem_append_right _ (List.mem_append_right _ (List.mem_append_right _ (List.mem_append_right _ (List.mem_append_right _ (List.mem_append_right _ (List.mem_append_right _ (List.mem_append_right _ (List.mem_append_right _ (List.mem_append_right _ (List.mem_append_right _ (List.mem_append_right _ (List.mem_append_right _ (List.mem_append_right _ (List.mem_append_right _ (List.mem_append_right _ (List.mem_append_right _ (List.mem_append_left _ h)))))))))))))))))))))))))))))))))
theorem zsub_26 : ∀ w ∈ wsL_law_r26, w ∈ wsL_law := fun _ h => List.mem_append_left _ (List.mem_append_left _ (List.mem_append_left _ (List.mem_append_left _ (List.mem_append_left _ (List.mem_append_left _ (List.mem_append_left _ (List.mem_append_left _ (List.mem_append_left _ (List.mem_append_right _ (List.mem_append_right _ (List.mem_append_right _ (List.mem_append_right _ (List.mem_append_right _ (List.mem_append_right _ (List.mem_append_right _ (List.mem_append_right _ (List.mem_append_right _ (List.mem_append_right _ (List.mem_append_right _ (List.mem_append_right _ (List.mem_append_right _ (List.mem_append_right _ (List.mem_append_right _ (List.mem_append_right _ (List.mem_append_right _ (List.mem_append_right _ (List.mem_append_right _ (List.mem_append_right _ (List.mem_append_right _ (List.mem_append_right _ (List.mem_append_right _ (List.mem_append_right _ (List.mem_append_right _ (List.mem_append_left _ h))))))))))))))))))))))))))))))))))
theorem zsub_27 : ∀ w ∈ wsL_law_r27, w ∈ wsL_law := fun _ h => List.mem_append_left _ (List.mem_append_left _ (List.mem_append_left _ (List.mem_append_left _ (List.mem_append_left _ (List.mem_append_left _ (List.mem_append_left _ (List.mem_append_left _ (List.mem_append_left _ (List.mem_append_right _ (List.mem_append_right _ (List.mem_append_right _ (List.mem_append_right _ (List.mem_append_right _ (List.mem_append_right _ (List.mem_append_right _ (List.mem_append_right _ (List.mem_append_right _ (List.mem_append_right _ (List.mem_append_right _ (List.mem_append_right _ (List.mem_append_right _ (List.mem_append_right _ (List.mem_append_right _ (List.mem_append_right _ (List.mem_append_right _ (List.mem_append_right _ (List.mem_append_right _ (List.mem_append_right _ (List.mem_append_right _ (List.mem_append_right _ (List.mem_append_right _ (List.mem_append_right _ (List.mem_append_right _ (List.mem_append_right _ (List.mem_append_left _ h)))))))))))))))))))))))))))))))))))
theorem zsub_28 : ∀ w ∈ wsL_law_r28, w ∈ wsL_law := fun _ h => List.mem_append_left _ (List.mem_append_left _ (List.mem_append_left _ (List.mem_append_left _ (List.mem_append_left _ (List.mem_append_left _ (List.mem_append_left _ (List.mem_append_left _ (List.mem_append_left _ (List.mem_append_right _ (List.mem_append_right _ (List.mem_append_right _ (List.mem_append_right _ (List.mem_append_right _ (List.mem_append_right _ (List.mem_append_right _ (List.mem_append_right _ (List.mem_append_right _ (List.mem_append_right _ (List.mem_append_right _ (List.mem_append_right _ (List.mem_append_right _ (List.mem_append_right _ (List.mem_append_right _ (List.mem_append_right _ (List.mem_append_right _ (List.mem_append_right _ (List.mem_append_right _ (List.mem_append_right _ (List.mem_append_right _ (List.mem_append_right _ (List.mem_append_right _ (List.mem_append_right _ (List.mem_append_right _ (List.mem_append_right _ (List.mem_append_right _ (List.mem_append_left _ h))))))))))))))))))))))))))))))))))))
theorem zsub_29 : ∀ w ∈ wsL_law_r29, w ∈ wsL_law := fun _ h => List.mem_append_left _ (List.mem_append_left _ (List.mem_append_left _ (List.mem_append_left _ (List.mem_append_left _ (List.mem_append_left _ (List.mem_append_left _ (List.mem_append_left _ (List.mem_append_left _ (List.mem_append_right _ (List.mem_append_right _ (List.mem_append_right _ (List.mem_append_right _ (List.mem_append_right _ (List.mem_append_right _ (List.mem_append_right _ (List.mem_append_right _ (List.mem_append_right _ (List.mem_append_right _ (List.mem_append_right _ (List.mem_append_right _ (List.mem_append_right _ (List.mem_append_right _ (List.mem_append_right _ (List.mem_append_right _ (List.mem_append_right _ (List.mem_append_right _ (List.mem_append_right _ (List.mem_append_right _ (List.mem_append_right _ (List.mem_append_right _ (List.mem_append_right _ (List.mem_append_right _ (List.mem_append_right _ (List.mem_append_right _ (List.mem_append_right _ (List.mem_append_right _ (List.mem_append_left _ h)))))))))))))))))))))))))))))))))))))
theorem zsub_30 : ∀ w ∈ wsL_law_r30, w ∈ wsL_law := fun _ h => List.mem_append_left _ (List.mem_append_left _ (List.mem_append_left _ (List.mem_append_left _ (List.mem_append_left _ (List.mem_append_left _ (List.mem_append_left _ (List.mem_append_left _ (List.mem_append_left _ (List.mem_append_right _ (List.mem_append_right _ (List.mem_append_right _ (List.mem_append_right _ (List.mem_append_right _ (List.mem_append_right _ (List.mem_append_right _ (List.mem_append_right _ (List.mem_append_right _ (List.mem_append_right _ (List.mem_append_right _ (List.mem_append_right _ (List.mem_append_right _ (List.mem_append_right _ (List.mem_append_right _ (List.mem_append_right _ (List.mem_append_right _ (List.mem_append_right _ (List.mem_append_right _ (List.mem_append_right _ (List.mem_append_right _ (List.mem_append_right _ (List.mem_append_right _ (List.mem_append_right _ (List.mem_append_right _ (List.mem_append_right _ (List.mem_append_right _ (List.mem_append_right _ (List.mem_append_right _ (List.mem_append_left _ h))))))))))))))))))))))))))))))))))))))
theorem zsub_31 : ∀ w ∈ wsL_law_r31, w ∈ wsL_law := fun _ h => List.mem_append_left _ (List.mem_append_left _ (List.mem_append_left _ (List.mem_append_left _ (List.mem_append_left _ (List.mem_append_left _ (List.mem_append_left _ (List.mem_append_left _ (List.mem_append_left _ (List.mem_append_right _ (List.mem_append_right _ (List.mem_append_right _ (List.mem_append_right _ (List.mem_append_right _ (List.mem_append_right _ (List.mem_append_right _ (List.mem_append_right _ (List.mem_append_right _ (List.mem_append_right _ (List.mem_append_right _ (List.mem_append_right _ (List.mem_append_right _ (List.mem_append_right _ (List.mem_append_right _ (List.mem_append_right _ (List.mem_append_right _ (List.mem_append_right _ (List.mem_append_right _ (List.mem_append_right _ (List.mem_append_right _ (List.mem_append_right _ (List.mem_append_right _ (List.mem_append_right _ (List.mem_append_right _ (List.mem_append_right _ (List.mem_append_right _ (List.mem_append_right _ (List.mem_append_right _ (List.mem_append_right _ (List.mem_append_left _ h)))))))))))))))))))))))))))))))))))))))
theorem zsub_32 : ∀ w ∈ wsL_law_r32, w ∈ wsL_law := fun _ h => List.mem_append_left _ (List.mem_append_left _ (List.mem_append_left _ (List.mem_append_left _ (List.mem_append_left _ (List.mem_append_left _ (List.mem_append_left _ (List.mem_append_left _ (List.mem_append_left _ (List.mem_append_right _ (List.mem_append_right _ (List.mem_append_right _ (List.mem_append_right _ (List.mem_append_right _ (List.mem_append_right _ (List.mem_append_right _ (List.mem_append_right _ (List.mem_append_right _ (List.mem_append_right _ (List.mem_append_right _ (List.mem_append_right _ (List.mem_append_right _ (List.mem_append_right _ (List.mem_append_right _ (List.mem_append_right _ (List.mem_append_right _ (List.mem_append_right _ (List.mem_append_right _ (List.mem_append_right _ (List.mem_append_right _ (List.mem_append_right _ (List.mem_append_right _ (List.mem_append_right _ (List.mem_append_right _ (List.mem_append_right _ (List.mem_append_right _ (List.mem_append_right _ (List.mem_append_right _ (List.mem_append_right _ (List.mem_append_right _ (List.mem_append_left _ h))))))))))))))))))))))))))))))))))))))))
theorem zsub_33 : ∀ w ∈ wsL_law_r33, w ∈ wsL_law := fun _ h => List.mem_append_left _ (List.mem_append_left _ (List.mem_append_left _ (List.mem_append_left _ (List.mem_append_left _ (List.mem_append_left _ (List.mem_append_left _ (List.mem_append_left _ (List.mem_append_left _ (List.mem_append_right _ (List.mem_append_right _ (List.mem_append_right _ (List.mem_append_right _ (List.mem_append_right _ (List.mem_append_right _ (List.mem_append_right _ (List.mem_append_right _ (List.mem_append_right _ (List.mem_append_right _ (List.mem_append_right _ (List.mem_append_right _ (List.mem_append_right _ (List.mem_append_right _ (List.mem_append_right _ (List.mem_append_right _ (List.mem_append_right _ (List.mem_append_right _ (List.mem_append_right _ (List.mem_append_right _ (List.mem_append_right _ (List.mem_append_right _ (List.mem_append_right _ (List.mem_append_right _ (List.mem_append_right _ (List.mem_append_right _ (List.mem_append_right _ (List.mem_append_right _ (List.mem_append_right _ (List.mem_append_right _ (List.mem_append_right _ (List.mem_append_right _ (List.mem_append_left _ h)))))))))))))))))))))))))))))))))))))))))
theorem zsub_34 : ∀ w ∈ wsL_law_r34, w ∈ wsL_law := fun _ h => List.mem_append_left _ (List.mem_append_left _ (List.mem_append_left _ (List.mem_append_left _ (List.mem_append_left _ (List.mem_append_left _ (List.mem_append_left _ (List.mem_append_left _ (List.mem_append_left _ (List.mem_append_right _ (List.mem_append_right _ (List.mem_append_right _ (List.mem_append_right _ (List.mem_append_right _ (List.mem_append_right _ (List.mem_append_right _ (List.mem_append_right _ (List.mem_append_right _ (List.mem_append_right _ (List.mem_append_right _ (List.mem_append_right _ (List.mem_append_right _ (List.mem_append_right _ (List.mem_append_right _ (List.mem_append_right _ (List.mem_append_right _ (List.mem_append_right _ (List.mem_append_right _ (List.mem_append_right _ (List.mem_append_right _ (List.mem_append_right _ (List.mem_append_right _ (List.mem_append_right _ (List.mem_append_right _ (List.mem_append_right _ (List.mem_append_right _ (List.mem_append_right _ (List.mem_append_right _ (List.mem_append_right _ (List.mem_append_right _ (List.mem_append_right _ (List.mem_append_right _ (h))))))))))))))))))))))))))))))))))))))))))
theorem inlX0 : ∀ w ∈ wsX00, w ∈ wsL_law := fun _ h => List.mem_append_left _ (List.mem_append_left _ (List.mem_append_right _ h))
theorem inlX1 : ∀ w ∈ wsX10, w ∈ wsL_law := fun _ h => List.mem_append_left _ (List.mem_append_left _ (List.mem_append_left _ (List.mem_append_left _ (List.mem_append_right _ h))))
theorem inlX2 : ∀ w ∈ wsX20, w ∈ wsL_law := fun _ h => List.mem_append_left _ (List.mem_append_right _ h)
theorem inlX3 : ∀ w ∈ wsX30, w ∈ wsL_law := fun _ h => List.mem_append_left _ (List.mem_append_left _ (List.mem_append_left _ (List.mem_append_right _ h)))
theorem inlX4 : ∀ w ∈ wsX40, w ∈ wsL_law := fun _ h => List.mem_append_left _ (List.mem_append_left _ (List.mem_append_left _ (List.mem_append_left _ (List.mem_append_left _ (List.mem_append_right _ h)))))
theorem inlX5 : ∀ w ∈ wsX50, w ∈ wsL_law := fun _ h => List.mem_append_left _ (List.mem_append_left _ (List.mem_append_left _ (List.mem_append_left _ (List.mem_append_left _ (List.mem_append_left _ (List.mem_append_right _ h))))))
theorem inlX6 : ∀ w ∈ wsX60, w ∈ wsL_law := fun _ h => List.mem_append_left _ (List.mem_append_left _ (List.mem_append_left _ (List.mem_append_left _ (List.mem_append_left _ (List.mem_append_left _ (List.mem_append_left _ (List.mem_append_left _ (List.mem_append_right _ h))))))))
theorem inlX7 : ∀ w ∈ wsX70, w ∈ wsL_law := fun _ h => List.mem_append_left _ (List.mem_append_left _ (List.mem_append_left _ (List.mem_append_left _ (List.mem_append_left _ (List.mem_append_left _ (List.mem_append_left _ (List.mem_append_right _ h)))))))
theorem qk_RL_7 : Cond.classLink RL 7 RX6 ∈ wsL_law := zsub_1 _ (List.mem_of_getElem? (i := 0) rfl)
theorem qx_RX6 : Cond.instantiable RX6 10 ∈ wsL_law := zsub_1 _ (List.mem_of_getElem? (i := 1) rfl)
theorem qn_RX6 : Cond.initialized RX6 ∈ wsL_law := zsub_1 _ (List.mem_of_getElem? (i := 2) rfl)
theorem qk_RL_10 : Cond.classLink RL 10 RX7 ∈ wsL_law := zsub_1 _ (List.mem_of_getElem? (i := 3) rfl)
theorem qx_RX7 : Cond.instantiable RX7 18 ∈ wsL_law := zsub_1 _ (List.mem_of_getElem? (i := 4) rfl)
theorem qn_RX7 : Cond.initialized RX7 ∈ wsL_law := zsub_1 _ (List.mem_of_getElem? (i := 5) rfl)
theorem ql_RL_77 : Cond.constantLong RL 77 (4294967295) ∈ wsL_law := zsub_1 _ (List.mem_of_getElem? (i := 6) rfl)
theorem qm_RL_9 : Cond.methodLink RL 9 yX6_init ∈ wsL_law := zsub_1 _ (List.mem_of_getElem? (i := 7) rfl)
theorem qi_X6_init : Cond.instanceMethod yX6_init ∈ wsL_law := zsub_1 _ (List.mem_of_getElem? (i := 8) rfl)
theorem qc_X6_init : Cond.code yX6_init cX6_init 2 none ∈ wsL_law := zsub_1 _ (List.mem_of_getElem? (i := 9) rfl)
theorem qm_RX6_3 : Cond.methodLink RX6 3 objectInit ∈ wsL_law := zsub_1 _ (List.mem_of_getElem? (i := 10) rfl)
theorem qi_objectInit : Cond.instanceMethod objectInit ∈ wsL_law := zsub_1 _ (List.mem_of_getElem? (i := 11) rfl)
theorem qc_objectInit : Cond.code objectInit ⟨#[0xb1]⟩ 1 none ∈ wsL_law := zsub_1 _ (List.mem_of_getElem? (i := 12) rfl)
theorem qk_RX6_9 : Cond.classLink RX6 9 RX5 ∈ wsL_law := zsub_1 _ (List.mem_of_getElem? (i := 13) rfl)
theorem qx_RX5 : Cond.instantiable RX5 6 ∈ wsL_law := zsub_1 _ (List.mem_of_getElem? (i := 14) rfl)
theorem qn_RX5 : Cond.initialized RX5 ∈ wsL_law := zsub_1 _ (List.mem_of_getElem? (i := 15) rfl)
theorem qf_RX6_12 : Cond.fieldLink RX6 12 "MeshTurns" "now" "LMeshTurns$State;" ∈ wsL_law := zsub_1 _ (List.mem_of_getElem? (i := 16) rfl)
theorem qk_RX6_16 : Cond.classLink RX6 16 RX4 ∈ wsL_law := zsub_1 _ (List.mem_of_getElem? (i := 17) rfl)
theorem qx_RX4 : Cond.instantiable RX4 6 ∈ wsL_law := zsub_1 _ (List.mem_of_getElem? (i := 18) rfl)
theorem qn_RX4 : Cond.initialized RX4 ∈ wsL_law := zsub_1 _ (List.mem_of_getElem? (i := 19) rfl)
theorem qf_RX6_19 : Cond.fieldLink RX6 19 "MeshTurns" "routes" "LMeshTurns$Routes;" ∈ wsL_law := zsub_1 _ (List.mem_of_getElem? (i := 20) rfl)
theorem qf_RX6_23 : Cond.fieldLink RX6 23 "MeshTurns" "trial" "LMeshTurns$State;" ∈ wsL_law := zsub_1 _ (List.mem_of_getElem? (i := 21) rfl)
theorem qf_RX6_26 : Cond.fieldLink RX6 26 "MeshTurns" "trialRoutes" "LMeshTurns$Routes;" ∈ wsL_law := zsub_1 _ (List.mem_of_getElem? (i := 22) rfl)
theorem qk_RX6_29 : Cond.classLink RX6 29 RX1 ∈ wsL_law := zsub_1 _ (List.mem_of_getElem? (i := 23) rfl)
theorem qx_RX1 : Cond.instantiable RX1 1 ∈ wsL_law := zsub_2 _ (List.mem_of_getElem? (i := 0) rfl)
theorem qn_RX1 : Cond.initialized RX1 ∈ wsL_law := zsub_2 _ (List.mem_of_getElem? (i := 1) rfl)
theorem qf_RX6_32 : Cond.fieldLink RX6 32 "MeshTurns" "jam" "LMeshTurns$Jam;" ∈ wsL_law := zsub_2 _ (List.mem_of_getElem? (i := 2) rfl)
theorem qk_RX6_36 : Cond.classLink RX6 36 RX3 ∈ wsL_law := zsub_2 _ (List.mem_of_getElem? (i := 3) rfl)
theorem qx_RX3 : Cond.instantiable RX3 7 ∈ wsL_law := zsub_2 _ (List.mem_of_getElem? (i := 4) rfl)
theorem qn_RX3 : Cond.initialized RX3 ∈ wsL_law := zsub_2 _ (List.mem_of_getElem? (i := 5) rfl)
theorem qf_RX6_39 : Cond.fieldLink RX6 39 "MeshTurns" "pad" "LMeshTurns$Pad;" ∈ wsL_law := zsub_2 _ (List.mem_of_getElem? (i := 6) rfl)
theorem qf_RX6_43 : Cond.fieldLink RX6 43 "MeshTurns" "history" "[LMeshTurns$State;" ∈ wsL_law := zsub_2 _ (List.mem_of_getElem? (i := 7) rfl)
theorem qf_RX6_47 : Cond.fieldLink RX6 47 "MeshTurns" "undoable" "I" ∈ wsL_law := zsub_2 _ (List.mem_of_getElem? (i := 8) rfl)
theorem qf_RX6_51 : Cond.fieldLink RX6 51 "MeshTurns" "slots" "[LMeshTurns$State;" ∈ wsL_law := zsub_2 _ (List.mem_of_getElem? (i := 9) rfl)
theorem qa__boolean : Cond.arrayClass .boolean ∈ wsL_law := zsub_2 _ (List.mem_of_getElem? (i := 10) rfl)
theorem qf_RX6_54 : Cond.fieldLink RX6 54 "MeshTurns" "slotIsUsed" "[Z" ∈ wsL_law := zsub_2 _ (List.mem_of_getElem? (i := 11) rfl)
theorem qi_X5_init : Cond.instanceMethod yX5_init ∈ wsL_law := zsub_2 _ (List.mem_of_getElem? (i := 12) rfl)
theorem qc_X5_init : Cond.code yX5_init cX5_init 1 none ∈ wsL_law := zsub_2 _ (List.mem_of_getElem? (i := 13) rfl)
theorem qm_RX5_3 : Cond.methodLink RX5 3 objectInit ∈ wsL_law := zsub_2 _ (List.mem_of_getElem? (i := 14) rfl)
theorem qa__int : Cond.arrayClass .int ∈ wsL_law := zsub_2 _ (List.mem_of_getElem? (i := 15) rfl)
theorem qf_RX5_9 : Cond.fieldLink RX5 9 "MeshTurns$State" "settings" "[I" ∈ wsL_law := zsub_2 _ (List.mem_of_getElem? (i := 16) rfl)
theorem qk_RX5_15 : Cond.classLink RX5 15 RX0 ∈ wsL_law := zsub_2 _ (List.mem_of_getElem? (i := 17) rfl)
theorem qx_RX0 : Cond.instantiable RX0 3 ∈ wsL_law := zsub_2 _ (List.mem_of_getElem? (i := 18) rfl)
theorem qn_RX0 : Cond.initialized RX0 ∈ wsL_law := zsub_2 _ (List.mem_of_getElem? (i := 19) rfl)
theorem qf_RX5_18 : Cond.fieldLink RX5 18 "MeshTurns$State" "grid" "LMeshTurns$Grid;" ∈ wsL_law := zsub_2 _ (List.mem_of_getElem? (i := 20) rfl)
theorem qk_RX5_22 : Cond.classLink RX5 22 RX2 ∈ wsL_law := zsub_2 _ (List.mem_of_getElem? (i := 21) rfl)
theorem qx_RX2 : Cond.instantiable RX2 11 ∈ wsL_law := zsub_2 _ (List.mem_of_getElem? (i := 22) rfl)
theorem qn_RX2 : Cond.initialized RX2 ∈ wsL_law := zsub_2 _ (List.mem_of_getElem? (i := 23) rfl)
theorem qf_RX5_25 : Cond.fieldLink RX5 25 "MeshTurns$State" "packets" "LMeshTurns$Packets;" ∈ wsL_law := zsub_3 _ (List.mem_of_getElem? (i := 0) rfl)
theorem qf_RX5_29 : Cond.fieldLink RX5 29 "MeshTurns$State" "inside" "[I" ∈ wsL_law := zsub_3 _ (List.mem_of_getElem? (i := 1) rfl)
theorem qf_RX5_32 : Cond.fieldLink RX5 32 "MeshTurns$State" "movesFrom" "[I" ∈ wsL_law := zsub_3 _ (List.mem_of_getElem? (i := 2) rfl)
theorem qf_RX5_35 : Cond.fieldLink RX5 35 "MeshTurns$State" "tick" "I" ∈ wsL_law := zsub_3 _ (List.mem_of_getElem? (i := 3) rfl)
theorem qi_X0_init : Cond.instanceMethod yX0_init ∈ wsL_law := zsub_3 _ (List.mem_of_getElem? (i := 4) rfl)
theorem qc_X0_init : Cond.code yX0_init cX0_init 1 none ∈ wsL_law := zsub_3 _ (List.mem_of_getElem? (i := 5) rfl)
theorem qm_RX0_3 : Cond.methodLink RX0 3 objectInit ∈ wsL_law := zsub_3 _ (List.mem_of_getElem? (i := 6) rfl)
theorem qf_RX0_9 : Cond.fieldLink RX0 9 "MeshTurns$Grid" "columns" "I" ∈ wsL_law := zsub_3 _ (List.mem_of_getElem? (i := 7) rfl)
theorem qf_RX0_15 : Cond.fieldLink RX0 15 "MeshTurns$Grid" "rows" "I" ∈ wsL_law := zsub_3 _ (List.mem_of_getElem? (i := 8) rfl)
theorem qf_RX0_18 : Cond.fieldLink RX0 18 "MeshTurns$Grid" "broken" "J" ∈ wsL_law := zsub_3 _ (List.mem_of_getElem? (i := 9) rfl)
theorem qi_X2_init : Cond.instanceMethod yX2_init ∈ wsL_law := zsub_3 _ (List.mem_of_getElem? (i := 10) rfl)
theorem qc_X2_init : Cond.code yX2_init cX2_init 1 none ∈ wsL_law := zsub_3 _ (List.mem_of_getElem? (i := 11) rfl)
theorem qm_RX2_3 : Cond.methodLink RX2 3 objectInit ∈ wsL_law := zsub_3 _ (List.mem_of_getElem? (i := 12) rfl)
theorem qf_RX2_9 : Cond.fieldLink RX2 9 "MeshTurns$Packets" "sent" "I" ∈ wsL_law := zsub_3 _ (List.mem_of_getElem? (i := 13) rfl)
theorem qf_RX2_15 : Cond.fieldLink RX2 15 "MeshTurns$Packets" "from" "[I" ∈ wsL_law := zsub_3 _ (List.mem_of_getElem? (i := 14) rfl)
theorem qf_RX2_19 : Cond.fieldLink RX2 19 "MeshTurns$Packets" "to" "[I" ∈ wsL_law := zsub_3 _ (List.mem_of_getElem? (i := 15) rfl)
theorem qf_RX2_22 : Cond.fieldLink RX2 22 "MeshTurns$Packets" "place" "[I" ∈ wsL_law := zsub_3 _ (List.mem_of_getElem? (i := 16) rfl)
theorem qf_RX2_25 : Cond.fieldLink RX2 25 "MeshTurns$Packets" "box" "[I" ∈ wsL_law := zsub_3 _ (List.mem_of_getElem? (i := 17) rfl)
theorem qf_RX2_28 : Cond.fieldLink RX2 28 "MeshTurns$Packets" "moves" "[I" ∈ wsL_law := zsub_3 _ (List.mem_of_getElem? (i := 18) rfl)
theorem qf_RX2_31 : Cond.fieldLink RX2 31 "MeshTurns$Packets" "detours" "[I" ∈ wsL_law := zsub_3 _ (List.mem_of_getElem? (i := 19) rfl)
theorem qf_RX2_34 : Cond.fieldLink RX2 34 "MeshTurns$Packets" "waits" "[I" ∈ wsL_law := zsub_3 _ (List.mem_of_getElem? (i := 20) rfl)
theorem qf_RX2_37 : Cond.fieldLink RX2 37 "MeshTurns$Packets" "sentIn" "[I" ∈ wsL_law := zsub_3 _ (List.mem_of_getElem? (i := 21) rfl)
theorem qf_RX2_40 : Cond.fieldLink RX2 40 "MeshTurns$Packets" "arrivedIn" "[I" ∈ wsL_law := zsub_3 _ (List.mem_of_getElem? (i := 22) rfl)
theorem qf_RX2_43 : Cond.fieldLink RX2 43 "MeshTurns$Packets" "turned" "[I" ∈ wsL_law := zsub_3 _ (List.mem_of_getElem? (i := 23) rfl)
theorem qi_X4_init : Cond.instanceMethod yX4_init ∈ wsL_law := zsub_4 _ (List.mem_of_getElem? (i := 0) rfl)
theorem qc_X4_init : Cond.code yX4_init cX4_init 1 none ∈ wsL_law := zsub_4 _ (List.mem_of_getElem? (i := 1) rfl)
theorem qm_RX4_3 : Cond.methodLink RX4 3 objectInit ∈ wsL_law := zsub_4 _ (List.mem_of_getElem? (i := 2) rfl)
theorem qf_RX4_9 : Cond.fieldLink RX4 9 "MeshTurns$Routes" "eastIsFirst" "Z" ∈ wsL_law := zsub_4 _ (List.mem_of_getElem? (i := 3) rfl)
theorem qf_RX4_15 : Cond.fieldLink RX4 15 "MeshTurns$Routes" "open" "[I" ∈ wsL_law := zsub_4 _ (List.mem_of_getElem? (i := 4) rfl)
theorem qf_RX4_19 : Cond.fieldLink RX4 19 "MeshTurns$Routes" "lengths" "[I" ∈ wsL_law := zsub_4 _ (List.mem_of_getElem? (i := 5) rfl)
theorem qf_RX4_22 : Cond.fieldLink RX4 22 "MeshTurns$Routes" "numbers" "[I" ∈ wsL_law := zsub_4 _ (List.mem_of_getElem? (i := 6) rfl)
theorem qf_RX4_25 : Cond.fieldLink RX4 25 "MeshTurns$Routes" "queue" "[I" ∈ wsL_law := zsub_4 _ (List.mem_of_getElem? (i := 7) rfl)
theorem qf_RX4_28 : Cond.fieldLink RX4 28 "MeshTurns$Routes" "queued" "I" ∈ wsL_law := zsub_4 _ (List.mem_of_getElem? (i := 8) rfl)
theorem qi_X1_init : Cond.instanceMethod yX1_init ∈ wsL_law := zsub_4 _ (List.mem_of_getElem? (i := 9) rfl)
theorem qc_X1_init : Cond.code yX1_init cX1_init 1 none ∈ wsL_law := zsub_4 _ (List.mem_of_getElem? (i := 10) rfl)
theorem qm_RX1_3 : Cond.methodLink RX1 3 objectInit ∈ wsL_law := zsub_4 _ (List.mem_of_getElem? (i := 11) rfl)
theorem qf_RX1_9 : Cond.fieldLink RX1 9 "MeshTurns$Jam" "stuck" "[Z" ∈ wsL_law := zsub_4 _ (List.mem_of_getElem? (i := 12) rfl)
theorem qi_X3_init : Cond.instanceMethod yX3_init ∈ wsL_law := zsub_4 _ (List.mem_of_getElem? (i := 13) rfl)
theorem qc_X3_init : Cond.code yX3_init cX3_init 1 none ∈ wsL_law := zsub_4 _ (List.mem_of_getElem? (i := 14) rfl)
theorem qm_RX3_5 : Cond.methodLink RX3 5 objectInit ∈ wsL_law := zsub_4 _ (List.mem_of_getElem? (i := 15) rfl)
theorem qa__char : Cond.arrayClass .char ∈ wsL_law := zsub_4 _ (List.mem_of_getElem? (i := 16) rfl)
theorem qf_RX3_11 : Cond.fieldLink RX3 11 "MeshTurns$Pad" "signs" "[C" ∈ wsL_law := zsub_4 _ (List.mem_of_getElem? (i := 17) rfl)
theorem qf_RX3_15 : Cond.fieldLink RX3 15 "MeshTurns$Pad" "length" "I" ∈ wsL_law := zsub_4 _ (List.mem_of_getElem? (i := 18) rfl)
theorem qf_RX3_19 : Cond.fieldLink RX3 19 "MeshTurns$Pad" "orders" "I" ∈ wsL_law := zsub_4 _ (List.mem_of_getElem? (i := 19) rfl)
theorem qf_RX3_22 : Cond.fieldLink RX3 22 "MeshTurns$Pad" "kinds" "[I" ∈ wsL_law := zsub_4 _ (List.mem_of_getElem? (i := 20) rfl)
theorem qf_RX3_26 : Cond.fieldLink RX3 26 "MeshTurns$Pad" "firsts" "[I" ∈ wsL_law := zsub_4 _ (List.mem_of_getElem? (i := 21) rfl)
theorem qf_RX3_29 : Cond.fieldLink RX3 29 "MeshTurns$Pad" "seconds" "[I" ∈ wsL_law := zsub_4 _ (List.mem_of_getElem? (i := 22) rfl)
theorem qf_RX3_32 : Cond.fieldLink RX3 32 "MeshTurns$Pad" "place" "I" ∈ wsL_law := zsub_4 _ (List.mem_of_getElem? (i := 23) rfl)
theorem qm_RX6_58 : Cond.methodLink RX6 58 yX6_learnRoutes ∈ wsL_law := zsub_5 _ (List.mem_of_getElem? (i := 0) rfl)
theorem qi_X6_learnRoutes : Cond.instanceMethod yX6_learnRoutes ∈ wsL_law := zsub_5 _ (List.mem_of_getElem? (i := 1) rfl)
theorem qs_X6_learnRoutes : Cond.selects RX6 yX6_learnRoutes yX6_learnRoutes ∈ wsL_law := zsub_5 _ (List.mem_of_getElem? (i := 2) rfl)
theorem qc_X6_learnRoutes : Cond.code yX6_learnRoutes cX6_learnRoutes 1 none ∈ wsL_law := zsub_5 _ (List.mem_of_getElem? (i := 3) rfl)
theorem qf_RX6_88 : Cond.fieldLink RX6 88 "MeshTurns$State" "grid" "LMeshTurns$Grid;" ∈ wsL_law := zsub_5 _ (List.mem_of_getElem? (i := 4) rfl)
theorem qf_RX6_71 : Cond.fieldLink RX6 71 "MeshTurns$State" "settings" "[I" ∈ wsL_law := zsub_5 _ (List.mem_of_getElem? (i := 5) rfl)
theorem qm_RX6_257 : Cond.methodLink RX6 257 yX4_learn ∈ wsL_law := zsub_5 _ (List.mem_of_getElem? (i := 6) rfl)
theorem qi_X4_learn : Cond.instanceMethod yX4_learn ∈ wsL_law := zsub_5 _ (List.mem_of_getElem? (i := 7) rfl)
theorem qs_X4_learn : Cond.selects RX4 yX4_learn yX4_learn ∈ wsL_law := zsub_5 _ (List.mem_of_getElem? (i := 8) rfl)
theorem qc_X4_learn : Cond.code yX4_learn cX4_learn 8 none ∈ wsL_law := zsub_5 _ (List.mem_of_getElem? (i := 9) rfl)
theorem qm_RX4_32 : Cond.methodLink RX4 32 yX0_boxes ∈ wsL_law := zsub_5 _ (List.mem_of_getElem? (i := 10) rfl)
theorem qi_X0_boxes : Cond.instanceMethod yX0_boxes ∈ wsL_law := zsub_5 _ (List.mem_of_getElem? (i := 11) rfl)
theorem qs_X0_boxes : Cond.selects RX0 yX0_boxes yX0_boxes ∈ wsL_law := zsub_5 _ (List.mem_of_getElem? (i := 12) rfl)
theorem qc_X0_boxes : Cond.code yX0_boxes cX0_boxes 1 (some .int) ∈ wsL_law := zsub_5 _ (List.mem_of_getElem? (i := 13) rfl)
theorem qm_RX4_38 : Cond.methodLink RX4 38 yX0_linkAt ∈ wsL_law := zsub_5 _ (List.mem_of_getElem? (i := 14) rfl)
theorem qi_X0_linkAt : Cond.instanceMethod yX0_linkAt ∈ wsL_law := zsub_5 _ (List.mem_of_getElem? (i := 15) rfl)
theorem qs_X0_linkAt : Cond.selects RX0 yX0_linkAt yX0_linkAt ∈ wsL_law := zsub_5 _ (List.mem_of_getElem? (i := 16) rfl)
theorem qc_X0_linkAt : Cond.code yX0_linkAt cX0_linkAt 4 (some .int) ∈ wsL_law := zsub_5 _ (List.mem_of_getElem? (i := 17) rfl)
theorem qm_RX0_32 : Cond.methodLink RX0 32 Lib.Math.min.name ∈ wsL_law := zsub_5 _ (List.mem_of_getElem? (i := 18) rfl)
theorem qt_Math_min : Cond.static Lib.Math.min.name ∈ wsL_law := zsub_5 _ (List.mem_of_getElem? (i := 19) rfl)
theorem qn_java_lang_Math : Cond.initialized "java/lang/Math" ∈ wsL_law := zsub_5 _ (List.mem_of_getElem? (i := 20) rfl)
theorem qc_Math_min : Cond.code Lib.Math.min.name Lib.Math.min.code 2 (some .int) ∈ wsL_law := zsub_5 _ (List.mem_of_getElem? (i := 21) rfl)
theorem qm_RX0_28 : Cond.methodLink RX0 28 yX0_beside ∈ wsL_law := zsub_5 _ (List.mem_of_getElem? (i := 22) rfl)
theorem qi_X0_beside : Cond.instanceMethod yX0_beside ∈ wsL_law := zsub_5 _ (List.mem_of_getElem? (i := 23) rfl)
theorem qs_X0_beside : Cond.selects RX0 yX0_beside yX0_beside ∈ wsL_law := zsub_6 _ (List.mem_of_getElem? (i := 0) rfl)
theorem qc_X0_beside : Cond.code yX0_beside cX0_beside 5 (some .int) ∈ wsL_law := zsub_6 _ (List.mem_of_getElem? (i := 1) rfl)
theorem qm_RX4_42 : Cond.methodLink RX4 42 yX0_isWhole ∈ wsL_law := zsub_6 _ (List.mem_of_getElem? (i := 2) rfl)
theorem qi_X0_isWhole : Cond.instanceMethod yX0_isWhole ∈ wsL_law := zsub_6 _ (List.mem_of_getElem? (i := 3) rfl)
theorem qs_X0_isWhole : Cond.selects RX0 yX0_isWhole yX0_isWhole ∈ wsL_law := zsub_6 _ (List.mem_of_getElem? (i := 4) rfl)
theorem qc_X0_isWhole : Cond.code yX0_isWhole cX0_isWhole 2 (some .boolean) ∈ wsL_law := zsub_6 _ (List.mem_of_getElem? (i := 5) rfl)
theorem qm_RX4_46 : Cond.methodLink RX4 46 yX0_beside ∈ wsL_law := zsub_6 _ (List.mem_of_getElem? (i := 6) rfl)
theorem qm_RX4_49 : Cond.methodLink RX4 49 yX4_search ∈ wsL_law := zsub_6 _ (List.mem_of_getElem? (i := 7) rfl)
theorem qi_X4_search : Cond.instanceMethod yX4_search ∈ wsL_law := zsub_6 _ (List.mem_of_getElem? (i := 8) rfl)
theorem qs_X4_search : Cond.selects RX4 yX4_search yX4_search ∈ wsL_law := zsub_6 _ (List.mem_of_getElem? (i := 9) rfl)
theorem qc_X4_search : Cond.code yX4_search cX4_search 3 none ∈ wsL_law := zsub_6 _ (List.mem_of_getElem? (i := 10) rfl)
theorem qm_RX4_53 : Cond.methodLink RX4 53 yX4_spot ∈ wsL_law := zsub_6 _ (List.mem_of_getElem? (i := 11) rfl)
theorem qt_X4_spot : Cond.static yX4_spot ∈ wsL_law := zsub_6 _ (List.mem_of_getElem? (i := 12) rfl)
theorem qc_X4_spot : Cond.code yX4_spot cX4_spot 2 (some .int) ∈ wsL_law := zsub_6 _ (List.mem_of_getElem? (i := 13) rfl)
theorem qm_RX4_67 : Cond.methodLink RX4 67 yX4_reach ∈ wsL_law := zsub_6 _ (List.mem_of_getElem? (i := 14) rfl)
theorem qi_X4_reach : Cond.instanceMethod yX4_reach ∈ wsL_law := zsub_6 _ (List.mem_of_getElem? (i := 15) rfl)
theorem qs_X4_reach : Cond.selects RX4 yX4_reach yX4_reach ∈ wsL_law := zsub_6 _ (List.mem_of_getElem? (i := 16) rfl)
theorem qc_X4_reach : Cond.code yX4_reach cX4_reach 6 none ∈ wsL_law := zsub_6 _ (List.mem_of_getElem? (i := 17) rfl)
theorem qm_RX4_71 : Cond.methodLink RX4 71 yX4_stepBack ∈ wsL_law := zsub_6 _ (List.mem_of_getElem? (i := 18) rfl)
theorem qi_X4_stepBack : Cond.instanceMethod yX4_stepBack ∈ wsL_law := zsub_6 _ (List.mem_of_getElem? (i := 19) rfl)
theorem qs_X4_stepBack : Cond.selects RX4 yX4_stepBack yX4_stepBack ∈ wsL_law := zsub_6 _ (List.mem_of_getElem? (i := 20) rfl)
theorem qc_X4_stepBack : Cond.code yX4_stepBack cX4_stepBack 9 none ∈ wsL_law := zsub_6 _ (List.mem_of_getElem? (i := 21) rfl)
theorem qm_RX4_56 : Cond.methodLink RX4 56 yX4_boxBehind ∈ wsL_law := zsub_6 _ (List.mem_of_getElem? (i := 22) rfl)
theorem qi_X4_boxBehind : Cond.instanceMethod yX4_boxBehind ∈ wsL_law := zsub_6 _ (List.mem_of_getElem? (i := 23) rfl)
theorem qs_X4_boxBehind : Cond.selects RX4 yX4_boxBehind yX4_boxBehind ∈ wsL_law := zsub_7 _ (List.mem_of_getElem? (i := 0) rfl)
theorem qc_X4_boxBehind : Cond.code yX4_boxBehind cX4_boxBehind 4 (some .int) ∈ wsL_law := zsub_7 _ (List.mem_of_getElem? (i := 1) rfl)
theorem qm_RX4_59 : Cond.methodLink RX4 59 yX4_mayMove ∈ wsL_law := zsub_7 _ (List.mem_of_getElem? (i := 2) rfl)
theorem qi_X4_mayMove : Cond.instanceMethod yX4_mayMove ∈ wsL_law := zsub_7 _ (List.mem_of_getElem? (i := 3) rfl)
theorem qs_X4_mayMove : Cond.selects RX4 yX4_mayMove yX4_mayMove ∈ wsL_law := zsub_7 _ (List.mem_of_getElem? (i := 4) rfl)
theorem qc_X4_mayMove : Cond.code yX4_mayMove cX4_mayMove 3 (some .boolean) ∈ wsL_law := zsub_7 _ (List.mem_of_getElem? (i := 5) rfl)
theorem qm_RX4_75 : Cond.methodLink RX4 75 yX4_opposite ∈ wsL_law := zsub_7 _ (List.mem_of_getElem? (i := 6) rfl)
theorem qt_X4_opposite : Cond.static yX4_opposite ∈ wsL_law := zsub_7 _ (List.mem_of_getElem? (i := 7) rfl)
theorem qc_X4_opposite : Cond.code yX4_opposite cX4_opposite 1 (some .int) ∈ wsL_law := zsub_7 _ (List.mem_of_getElem? (i := 8) rfl)
theorem qm_RL_12 : Cond.methodLink RL 12 yX7_init ∈ wsL_law := zsub_7 _ (List.mem_of_getElem? (i := 9) rfl)
theorem qi_X7_init : Cond.instanceMethod yX7_init ∈ wsL_law := zsub_7 _ (List.mem_of_getElem? (i := 10) rfl)
theorem qc_X7_init : Cond.code yX7_init cX7_init 1 none ∈ wsL_law := zsub_7 _ (List.mem_of_getElem? (i := 11) rfl)
theorem qm_RX7_1 : Cond.methodLink RX7 1 objectInit ∈ wsL_law := zsub_7 _ (List.mem_of_getElem? (i := 12) rfl)
theorem qf_RX7_7 : Cond.fieldLink RX7 7 "MeshTurnsModel" "now" "[I" ∈ wsL_law := zsub_7 _ (List.mem_of_getElem? (i := 13) rfl)
theorem qf_RX7_13 : Cond.fieldLink RX7 13 "MeshTurnsModel" "kept" "[I" ∈ wsL_law := zsub_7 _ (List.mem_of_getElem? (i := 14) rfl)
theorem qf_RX7_16 : Cond.fieldLink RX7 16 "MeshTurnsModel" "history" "[I" ∈ wsL_law := zsub_7 _ (List.mem_of_getElem? (i := 15) rfl)
theorem qf_RX7_19 : Cond.fieldLink RX7 19 "MeshTurnsModel" "saved" "[I" ∈ wsL_law := zsub_7 _ (List.mem_of_getElem? (i := 16) rfl)
theorem qf_RX7_22 : Cond.fieldLink RX7 22 "MeshTurnsModel" "isSaved" "[Z" ∈ wsL_law := zsub_7 _ (List.mem_of_getElem? (i := 17) rfl)
theorem qf_RX7_26 : Cond.fieldLink RX7 26 "MeshTurnsModel" "pad" "[I" ∈ wsL_law := zsub_7 _ (List.mem_of_getElem? (i := 18) rfl)
theorem qf_RX7_29 : Cond.fieldLink RX7 29 "MeshTurnsModel" "far" "[I" ∈ wsL_law := zsub_7 _ (List.mem_of_getElem? (i := 19) rfl)
theorem qf_RX7_32 : Cond.fieldLink RX7 32 "MeshTurnsModel" "many" "[I" ∈ wsL_law := zsub_7 _ (List.mem_of_getElem? (i := 20) rfl)
theorem qf_RX7_35 : Cond.fieldLink RX7 35 "MeshTurnsModel" "isLaid" "[Z" ∈ wsL_law := zsub_7 _ (List.mem_of_getElem? (i := 21) rfl)
theorem qf_RX7_38 : Cond.fieldLink RX7 38 "MeshTurnsModel" "sides" "[I" ∈ wsL_law := zsub_7 _ (List.mem_of_getElem? (i := 22) rfl)
theorem qf_RX7_41 : Cond.fieldLink RX7 41 "MeshTurnsModel" "isStuck" "[Z" ∈ wsL_law := zsub_7 _ (List.mem_of_getElem? (i := 23) rfl)
theorem qf_RX7_44 : Cond.fieldLink RX7 44 "MeshTurnsModel" "orders" "[I" ∈ wsL_law := zsub_8 _ (List.mem_of_getElem? (i := 0) rfl)
theorem qm_RL_13 : Cond.methodLink RL 13 yX6_set ∈ wsL_law := zsub_8 _ (List.mem_of_getElem? (i := 1) rfl)
theorem qi_X6_set : Cond.instanceMethod yX6_set ∈ wsL_law := zsub_8 _ (List.mem_of_getElem? (i := 2) rfl)
theorem qs_X6_set : Cond.selects RX6 yX6_set yX6_set ∈ wsL_law := zsub_8 _ (List.mem_of_getElem? (i := 3) rfl)
theorem qc_X6_set : Cond.code yX6_set cX6_set 4 (some .int) ∈ wsL_law := zsub_8 _ (List.mem_of_getElem? (i := 4) rfl)
theorem qm_RX6_61 : Cond.methodLink RX6 61 yX6_leastOfSetting ∈ wsL_law := zsub_8 _ (List.mem_of_getElem? (i := 5) rfl)
theorem qt_X6_leastOfSetting : Cond.static yX6_leastOfSetting ∈ wsL_law := zsub_8 _ (List.mem_of_getElem? (i := 6) rfl)
theorem qc_X6_leastOfSetting : Cond.code yX6_leastOfSetting cX6_leastOfSetting 1 (some .int) ∈ wsL_law := zsub_8 _ (List.mem_of_getElem? (i := 7) rfl)
theorem qm_RX6_65 : Cond.methodLink RX6 65 yX6_mostOfSetting ∈ wsL_law := zsub_8 _ (List.mem_of_getElem? (i := 8) rfl)
theorem qt_X6_mostOfSetting : Cond.static yX6_mostOfSetting ∈ wsL_law := zsub_8 _ (List.mem_of_getElem? (i := 9) rfl)
theorem qc_X6_mostOfSetting : Cond.code yX6_mostOfSetting cX6_mostOfSetting 1 (some .int) ∈ wsL_law := zsub_8 _ (List.mem_of_getElem? (i := 10) rfl)
theorem qm_RX6_68 : Cond.methodLink RX6 68 yX6_recordState ∈ wsL_law := zsub_8 _ (List.mem_of_getElem? (i := 11) rfl)
theorem qi_X6_recordState : Cond.instanceMethod yX6_recordState ∈ wsL_law := zsub_8 _ (List.mem_of_getElem? (i := 12) rfl)
theorem qs_X6_recordState : Cond.selects RX6 yX6_recordState yX6_recordState ∈ wsL_law := zsub_8 _ (List.mem_of_getElem? (i := 13) rfl)
theorem qc_X6_recordState : Cond.code yX6_recordState cX6_recordState 1 none ∈ wsL_law := zsub_8 _ (List.mem_of_getElem? (i := 14) rfl)
theorem qm_RX6_280 : Cond.methodLink RX6 280 yX6_dropOldestState ∈ wsL_law := zsub_8 _ (List.mem_of_getElem? (i := 15) rfl)
theorem qi_X6_dropOldestState : Cond.instanceMethod yX6_dropOldestState ∈ wsL_law := zsub_8 _ (List.mem_of_getElem? (i := 16) rfl)
theorem qs_X6_dropOldestState : Cond.selects RX6 yX6_dropOldestState yX6_dropOldestState ∈ wsL_law := zsub_8 _ (List.mem_of_getElem? (i := 17) rfl)
theorem qc_X6_dropOldestState : Cond.code yX6_dropOldestState cX6_dropOldestState 3 none ∈ wsL_law := zsub_8 _ (List.mem_of_getElem? (i := 18) rfl)
theorem qm_RX6_224 : Cond.methodLink RX6 224 yX5_copyState ∈ wsL_law := zsub_8 _ (List.mem_of_getElem? (i := 19) rfl)
theorem qt_X5_copyState : Cond.static yX5_copyState ∈ wsL_law := zsub_8 _ (List.mem_of_getElem? (i := 20) rfl)
theorem qc_X5_copyState : Cond.code yX5_copyState cX5_copyState 2 none ∈ wsL_law := zsub_8 _ (List.mem_of_getElem? (i := 21) rfl)
theorem qm_RX5_39 : Cond.methodLink RX5 39 arraycopyName ∈ wsL_law := zsub_8 _ (List.mem_of_getElem? (i := 22) rfl)
theorem qv_arraycopyName : Cond.native arraycopyName ∈ wsL_law := zsub_8 _ (List.mem_of_getElem? (i := 23) rfl)
theorem qt_arraycopyName : Cond.static arraycopyName ∈ wsL_law := zsub_9 _ (List.mem_of_getElem? (i := 0) rfl)
theorem qn_java_lang_System : Cond.initialized "java/lang/System" ∈ wsL_law := zsub_9 _ (List.mem_of_getElem? (i := 1) rfl)
theorem qm_RX5_45 : Cond.methodLink RX5 45 yX0_copyGrid ∈ wsL_law := zsub_9 _ (List.mem_of_getElem? (i := 2) rfl)
theorem qi_X0_copyGrid : Cond.instanceMethod yX0_copyGrid ∈ wsL_law := zsub_9 _ (List.mem_of_getElem? (i := 3) rfl)
theorem qs_X0_copyGrid : Cond.selects RX0 yX0_copyGrid yX0_copyGrid ∈ wsL_law := zsub_9 _ (List.mem_of_getElem? (i := 4) rfl)
theorem qc_X0_copyGrid : Cond.code yX0_copyGrid cX0_copyGrid 2 none ∈ wsL_law := zsub_9 _ (List.mem_of_getElem? (i := 5) rfl)
theorem qm_RX5_49 : Cond.methodLink RX5 49 yX2_copyPackets ∈ wsL_law := zsub_9 _ (List.mem_of_getElem? (i := 6) rfl)
theorem qi_X2_copyPackets : Cond.instanceMethod yX2_copyPackets ∈ wsL_law := zsub_9 _ (List.mem_of_getElem? (i := 7) rfl)
theorem qs_X2_copyPackets : Cond.selects RX2 yX2_copyPackets yX2_copyPackets ∈ wsL_law := zsub_9 _ (List.mem_of_getElem? (i := 8) rfl)
theorem qc_X2_copyPackets : Cond.code yX2_copyPackets cX2_copyPackets 2 none ∈ wsL_law := zsub_9 _ (List.mem_of_getElem? (i := 9) rfl)
theorem qm_RX2_46 : Cond.methodLink RX2 46 arraycopyName ∈ wsL_law := zsub_9 _ (List.mem_of_getElem? (i := 10) rfl)
theorem qm_RL_17 : Cond.methodLink RL 17 yX7_set ∈ wsL_law := zsub_9 _ (List.mem_of_getElem? (i := 11) rfl)
theorem qi_X7_set : Cond.instanceMethod yX7_set ∈ wsL_law := zsub_9 _ (List.mem_of_getElem? (i := 12) rfl)
theorem qs_X7_set : Cond.selects RX7 yX7_set yX7_set ∈ wsL_law := zsub_9 _ (List.mem_of_getElem? (i := 13) rfl)
theorem qc_X7_set : Cond.code yX7_set cX7_set 6 (some .int) ∈ wsL_law := zsub_9 _ (List.mem_of_getElem? (i := 14) rfl)
theorem qm_RX7_59 : Cond.methodLink RX7 59 yX7_in ∈ wsL_law := zsub_9 _ (List.mem_of_getElem? (i := 15) rfl)
theorem qt_X7_in : Cond.static yX7_in ∈ wsL_law := zsub_9 _ (List.mem_of_getElem? (i := 16) rfl)
theorem qc_X7_in : Cond.code yX7_in cX7_in 3 (some .boolean) ∈ wsL_law := zsub_9 _ (List.mem_of_getElem? (i := 17) rfl)
theorem qm_RX7_70 : Cond.methodLink RX7 70 yX7_record ∈ wsL_law := zsub_9 _ (List.mem_of_getElem? (i := 18) rfl)
theorem qi_X7_record : Cond.instanceMethod yX7_record ∈ wsL_law := zsub_9 _ (List.mem_of_getElem? (i := 19) rfl)
theorem qs_X7_record : Cond.selects RX7 yX7_record yX7_record ∈ wsL_law := zsub_9 _ (List.mem_of_getElem? (i := 20) rfl)
theorem qc_X7_record : Cond.code yX7_record cX7_record 2 none ∈ wsL_law := zsub_9 _ (List.mem_of_getElem? (i := 21) rfl)
theorem qf_RX7_47 : Cond.fieldLink RX7 47 "MeshTurnsModel" "isInText" "Z" ∈ wsL_law := zsub_9 _ (List.mem_of_getElem? (i := 22) rfl)
theorem qf_RX7_51 : Cond.fieldLink RX7 51 "MeshTurnsModel" "undos" "I" ∈ wsL_law := zsub_9 _ (List.mem_of_getElem? (i := 23) rfl)
theorem qm_RX7_73 : Cond.methodLink RX7 73 yX7_forget ∈ wsL_law := zsub_10 _ (List.mem_of_getElem? (i := 0) rfl)
theorem qi_X7_forget : Cond.instanceMethod yX7_forget ∈ wsL_law := zsub_10 _ (List.mem_of_getElem? (i := 1) rfl)
theorem qs_X7_forget : Cond.selects RX7 yX7_forget yX7_forget ∈ wsL_law := zsub_10 _ (List.mem_of_getElem? (i := 2) rfl)
theorem qc_X7_forget : Cond.code yX7_forget cX7_forget 2 none ∈ wsL_law := zsub_10 _ (List.mem_of_getElem? (i := 3) rfl)
theorem qm_RL_18 : Cond.methodLink RL 18 yX6_mesh ∈ wsL_law := zsub_10 _ (List.mem_of_getElem? (i := 4) rfl)
theorem qi_X6_mesh : Cond.instanceMethod yX6_mesh ∈ wsL_law := zsub_10 _ (List.mem_of_getElem? (i := 5) rfl)
theorem qs_X6_mesh : Cond.selects RX6 yX6_mesh yX6_mesh ∈ wsL_law := zsub_10 _ (List.mem_of_getElem? (i := 6) rfl)
theorem qc_X6_mesh : Cond.code yX6_mesh cX6_mesh 3 (some .int) ∈ wsL_law := zsub_10 _ (List.mem_of_getElem? (i := 7) rfl)
theorem qf_RX6_79 : Cond.fieldLink RX6 79 "MeshTurns$State" "packets" "LMeshTurns$Packets;" ∈ wsL_law := zsub_10 _ (List.mem_of_getElem? (i := 8) rfl)
theorem qf_RX6_83 : Cond.fieldLink RX6 83 "MeshTurns$Packets" "sent" "I" ∈ wsL_law := zsub_10 _ (List.mem_of_getElem? (i := 9) rfl)
theorem qm_RX6_75 : Cond.methodLink RX6 75 yX6_isLine ∈ wsL_law := zsub_10 _ (List.mem_of_getElem? (i := 10) rfl)
theorem qt_X6_isLine : Cond.static yX6_isLine ∈ wsL_law := zsub_10 _ (List.mem_of_getElem? (i := 11) rfl)
theorem qc_X6_isLine : Cond.code yX6_isLine cX6_isLine 1 (some .boolean) ∈ wsL_law := zsub_10 _ (List.mem_of_getElem? (i := 12) rfl)
theorem qm_RX6_92 : Cond.methodLink RX6 92 yX0_layOut ∈ wsL_law := zsub_10 _ (List.mem_of_getElem? (i := 13) rfl)
theorem qi_X0_layOut : Cond.instanceMethod yX0_layOut ∈ wsL_law := zsub_10 _ (List.mem_of_getElem? (i := 14) rfl)
theorem qs_X0_layOut : Cond.selects RX0 yX0_layOut yX0_layOut ∈ wsL_law := zsub_10 _ (List.mem_of_getElem? (i := 15) rfl)
theorem qc_X0_layOut : Cond.code yX0_layOut cX0_layOut 3 none ∈ wsL_law := zsub_10 _ (List.mem_of_getElem? (i := 16) rfl)
theorem qm_RX6_98 : Cond.methodLink RX6 98 yX0_boxes ∈ wsL_law := zsub_10 _ (List.mem_of_getElem? (i := 17) rfl)
theorem qm_RL_21 : Cond.methodLink RL 21 yX7_mesh ∈ wsL_law := zsub_10 _ (List.mem_of_getElem? (i := 18) rfl)
theorem qi_X7_mesh : Cond.instanceMethod yX7_mesh ∈ wsL_law := zsub_10 _ (List.mem_of_getElem? (i := 19) rfl)
theorem qs_X7_mesh : Cond.selects RX7 yX7_mesh yX7_mesh ∈ wsL_law := zsub_10 _ (List.mem_of_getElem? (i := 20) rfl)
theorem qc_X7_mesh : Cond.code yX7_mesh cX7_mesh 4 (some .int) ∈ wsL_law := zsub_10 _ (List.mem_of_getElem? (i := 21) rfl)
theorem qm_RX7_55 : Cond.methodLink RX7 55 yX7_boxes ∈ wsL_law := zsub_10 _ (List.mem_of_getElem? (i := 22) rfl)
theorem qi_X7_boxes : Cond.instanceMethod yX7_boxes ∈ wsL_law := zsub_10 _ (List.mem_of_getElem? (i := 23) rfl)
theorem qs_X7_boxes : Cond.selects RX7 yX7_boxes yX7_boxes ∈ wsL_law := zsub_11 _ (List.mem_of_getElem? (i := 0) rfl)
theorem qc_X7_boxes : Cond.code yX7_boxes cX7_boxes 1 (some .int) ∈ wsL_law := zsub_11 _ (List.mem_of_getElem? (i := 1) rfl)
theorem qm_RL_22 : Cond.methodLink RL 22 yX6_link ∈ wsL_law := zsub_11 _ (List.mem_of_getElem? (i := 2) rfl)
theorem qi_X6_link : Cond.instanceMethod yX6_link ∈ wsL_law := zsub_11 _ (List.mem_of_getElem? (i := 3) rfl)
theorem qs_X6_link : Cond.selects RX6 yX6_link yX6_link ∈ wsL_law := zsub_11 _ (List.mem_of_getElem? (i := 4) rfl)
theorem qc_X6_link : Cond.code yX6_link cX6_link 5 (some .int) ∈ wsL_law := zsub_11 _ (List.mem_of_getElem? (i := 5) rfl)
theorem qm_RX6_102 : Cond.methodLink RX6 102 yX6_linkError ∈ wsL_law := zsub_11 _ (List.mem_of_getElem? (i := 6) rfl)
theorem qi_X6_linkError : Cond.instanceMethod yX6_linkError ∈ wsL_law := zsub_11 _ (List.mem_of_getElem? (i := 7) rfl)
theorem qs_X6_linkError : Cond.selects RX6 yX6_linkError yX6_linkError ∈ wsL_law := zsub_11 _ (List.mem_of_getElem? (i := 8) rfl)
theorem qc_X6_linkError : Cond.code yX6_linkError cX6_linkError 4 (some .int) ∈ wsL_law := zsub_11 _ (List.mem_of_getElem? (i := 9) rfl)
theorem qm_RX6_171 : Cond.methodLink RX6 171 yX0_has ∈ wsL_law := zsub_11 _ (List.mem_of_getElem? (i := 10) rfl)
theorem qi_X0_has : Cond.instanceMethod yX0_has ∈ wsL_law := zsub_11 _ (List.mem_of_getElem? (i := 11) rfl)
theorem qs_X0_has : Cond.selects RX0 yX0_has yX0_has ∈ wsL_law := zsub_11 _ (List.mem_of_getElem? (i := 12) rfl)
theorem qc_X0_has : Cond.code yX0_has cX0_has 2 (some .boolean) ∈ wsL_law := zsub_11 _ (List.mem_of_getElem? (i := 13) rfl)
theorem qm_RX6_251 : Cond.methodLink RX6 251 yX6_isSide ∈ wsL_law := zsub_11 _ (List.mem_of_getElem? (i := 14) rfl)
theorem qt_X6_isSide : Cond.static yX6_isSide ∈ wsL_law := zsub_11 _ (List.mem_of_getElem? (i := 15) rfl)
theorem qc_X6_isSide : Cond.code yX6_isSide cX6_isSide 1 (some .boolean) ∈ wsL_law := zsub_11 _ (List.mem_of_getElem? (i := 16) rfl)
theorem qm_RX6_254 : Cond.methodLink RX6 254 yX0_beside ∈ wsL_law := zsub_11 _ (List.mem_of_getElem? (i := 17) rfl)
theorem qm_RX6_106 : Cond.methodLink RX6 106 yX6_changeLink ∈ wsL_law := zsub_11 _ (List.mem_of_getElem? (i := 18) rfl)
theorem qi_X6_changeLink : Cond.instanceMethod yX6_changeLink ∈ wsL_law := zsub_11 _ (List.mem_of_getElem? (i := 19) rfl)
theorem qs_X6_changeLink : Cond.selects RX6 yX6_changeLink yX6_changeLink ∈ wsL_law := zsub_11 _ (List.mem_of_getElem? (i := 20) rfl)
theorem qc_X6_changeLink : Cond.code yX6_changeLink cX6_changeLink 6 (some .int) ∈ wsL_law := zsub_11 _ (List.mem_of_getElem? (i := 21) rfl)
theorem qm_RX6_261 : Cond.methodLink RX6 261 yX0_linkAt ∈ wsL_law := zsub_11 _ (List.mem_of_getElem? (i := 22) rfl)
theorem qm_RX6_264 : Cond.methodLink RX6 264 yX0_isWhole ∈ wsL_law := zsub_11 _ (List.mem_of_getElem? (i := 23) rfl)
theorem qm_RX6_267 : Cond.methodLink RX6 267 yX0_makeWhole ∈ wsL_law := zsub_12 _ (List.mem_of_getElem? (i := 0) rfl)
theorem qi_X0_makeWhole : Cond.instanceMethod yX0_makeWhole ∈ wsL_law := zsub_12 _ (List.mem_of_getElem? (i := 1) rfl)
theorem qs_X0_makeWhole : Cond.selects RX0 yX0_makeWhole yX0_makeWhole ∈ wsL_law := zsub_12 _ (List.mem_of_getElem? (i := 2) rfl)
theorem qc_X0_makeWhole : Cond.code yX0_makeWhole cX0_makeWhole 5 none ∈ wsL_law := zsub_12 _ (List.mem_of_getElem? (i := 3) rfl)
theorem ql_RX0_41 : Cond.constantLong RX0 41 (-1) ∈ wsL_law := zsub_12 _ (List.mem_of_getElem? (i := 4) rfl)
theorem qm_RL_26 : Cond.methodLink RL 26 yX7_link ∈ wsL_law := zsub_12 _ (List.mem_of_getElem? (i := 5) rfl)
theorem qi_X7_link : Cond.instanceMethod yX7_link ∈ wsL_law := zsub_12 _ (List.mem_of_getElem? (i := 6) rfl)
theorem qs_X7_link : Cond.selects RX7 yX7_link yX7_link ∈ wsL_law := zsub_12 _ (List.mem_of_getElem? (i := 7) rfl)
theorem qc_X7_link : Cond.code yX7_link cX7_link 6 (some .int) ∈ wsL_law := zsub_12 _ (List.mem_of_getElem? (i := 8) rfl)
theorem qm_RX7_76 : Cond.methodLink RX7 76 yX7_isBox ∈ wsL_law := zsub_12 _ (List.mem_of_getElem? (i := 9) rfl)
theorem qi_X7_isBox : Cond.instanceMethod yX7_isBox ∈ wsL_law := zsub_12 _ (List.mem_of_getElem? (i := 10) rfl)
theorem qs_X7_isBox : Cond.selects RX7 yX7_isBox yX7_isBox ∈ wsL_law := zsub_12 _ (List.mem_of_getElem? (i := 11) rfl)
theorem qc_X7_isBox : Cond.code yX7_isBox cX7_isBox 2 (some .boolean) ∈ wsL_law := zsub_12 _ (List.mem_of_getElem? (i := 12) rfl)
theorem qm_RX7_63 : Cond.methodLink RX7 63 yX7_beside ∈ wsL_law := zsub_12 _ (List.mem_of_getElem? (i := 13) rfl)
theorem qi_X7_beside : Cond.instanceMethod yX7_beside ∈ wsL_law := zsub_12 _ (List.mem_of_getElem? (i := 14) rfl)
theorem qs_X7_beside : Cond.selects RX7 yX7_beside yX7_beside ∈ wsL_law := zsub_12 _ (List.mem_of_getElem? (i := 15) rfl)
theorem qc_X7_beside : Cond.code yX7_beside cX7_beside 6 (some .int) ∈ wsL_law := zsub_12 _ (List.mem_of_getElem? (i := 16) rfl)
theorem qm_RX7_67 : Cond.methodLink RX7 67 yX7_linkOf ∈ wsL_law := zsub_12 _ (List.mem_of_getElem? (i := 17) rfl)
theorem qi_X7_linkOf : Cond.instanceMethod yX7_linkOf ∈ wsL_law := zsub_12 _ (List.mem_of_getElem? (i := 18) rfl)
theorem qs_X7_linkOf : Cond.selects RX7 yX7_linkOf yX7_linkOf ∈ wsL_law := zsub_12 _ (List.mem_of_getElem? (i := 19) rfl)
theorem qc_X7_linkOf : Cond.code yX7_linkOf cX7_linkOf 4 (some .int) ∈ wsL_law := zsub_12 _ (List.mem_of_getElem? (i := 20) rfl)
theorem qm_RL_27 : Cond.methodLink RL 27 yX6_send ∈ wsL_law := zsub_12 _ (List.mem_of_getElem? (i := 21) rfl)
theorem qi_X6_send : Cond.instanceMethod yX6_send ∈ wsL_law := zsub_12 _ (List.mem_of_getElem? (i := 22) rfl)
theorem qs_X6_send : Cond.selects RX6 yX6_send yX6_send ∈ wsL_law := zsub_12 _ (List.mem_of_getElem? (i := 23) rfl)
theorem qc_X6_send : Cond.code yX6_send cX6_send 4 (some .int) ∈ wsL_law := zsub_13 _ (List.mem_of_getElem? (i := 0) rfl)
theorem qf_RX6_113 : Cond.fieldLink RX6 113 "MeshTurns$State" "tick" "I" ∈ wsL_law := zsub_13 _ (List.mem_of_getElem? (i := 1) rfl)
theorem qm_RX6_109 : Cond.methodLink RX6 109 yX6_sendError ∈ wsL_law := zsub_13 _ (List.mem_of_getElem? (i := 2) rfl)
theorem qi_X6_sendError : Cond.instanceMethod yX6_sendError ∈ wsL_law := zsub_13 _ (List.mem_of_getElem? (i := 3) rfl)
theorem qs_X6_sendError : Cond.selects RX6 yX6_sendError yX6_sendError ∈ wsL_law := zsub_13 _ (List.mem_of_getElem? (i := 4) rfl)
theorem qc_X6_sendError : Cond.code yX6_sendError cX6_sendError 3 (some .int) ∈ wsL_law := zsub_13 _ (List.mem_of_getElem? (i := 5) rfl)
theorem qm_RX6_201 : Cond.methodLink RX6 201 yX5_wayLength ∈ wsL_law := zsub_13 _ (List.mem_of_getElem? (i := 6) rfl)
theorem qi_X5_wayLength : Cond.instanceMethod yX5_wayLength ∈ wsL_law := zsub_13 _ (List.mem_of_getElem? (i := 7) rfl)
theorem qs_X5_wayLength : Cond.selects RX5 yX5_wayLength yX5_wayLength ∈ wsL_law := zsub_13 _ (List.mem_of_getElem? (i := 8) rfl)
theorem qc_X5_wayLength : Cond.code yX5_wayLength cX5_wayLength 5 (some .int) ∈ wsL_law := zsub_13 _ (List.mem_of_getElem? (i := 9) rfl)
theorem qm_RX5_53 : Cond.methodLink RX5 53 yX4_length ∈ wsL_law := zsub_13 _ (List.mem_of_getElem? (i := 10) rfl)
theorem qi_X4_length : Cond.instanceMethod yX4_length ∈ wsL_law := zsub_13 _ (List.mem_of_getElem? (i := 11) rfl)
theorem qs_X4_length : Cond.selects RX4 yX4_length yX4_length ∈ wsL_law := zsub_13 _ (List.mem_of_getElem? (i := 12) rfl)
theorem qc_X4_length : Cond.code yX4_length cX4_length 5 (some .int) ∈ wsL_law := zsub_13 _ (List.mem_of_getElem? (i := 13) rfl)
theorem qm_RX5_59 : Cond.methodLink RX5 59 yX0_distance ∈ wsL_law := zsub_13 _ (List.mem_of_getElem? (i := 14) rfl)
theorem qi_X0_distance : Cond.instanceMethod yX0_distance ∈ wsL_law := zsub_13 _ (List.mem_of_getElem? (i := 15) rfl)
theorem qs_X0_distance : Cond.selects RX0 yX0_distance yX0_distance ∈ wsL_law := zsub_13 _ (List.mem_of_getElem? (i := 16) rfl)
theorem qc_X0_distance : Cond.code yX0_distance cX0_distance 3 (some .int) ∈ wsL_law := zsub_13 _ (List.mem_of_getElem? (i := 17) rfl)
theorem qm_RX0_22 : Cond.methodLink RX0 22 Lib.Math.abs.name ∈ wsL_law := zsub_13 _ (List.mem_of_getElem? (i := 18) rfl)
theorem qt_Math_abs : Cond.static Lib.Math.abs.name ∈ wsL_law := zsub_13 _ (List.mem_of_getElem? (i := 19) rfl)
theorem qc_Math_abs : Cond.code Lib.Math.abs.name Lib.Math.abs.code 1 (some .int) ∈ wsL_law := zsub_13 _ (List.mem_of_getElem? (i := 20) rfl)
theorem qm_RX6_116 : Cond.methodLink RX6 116 yX2_add ∈ wsL_law := zsub_13 _ (List.mem_of_getElem? (i := 21) rfl)
theorem qi_X2_add : Cond.instanceMethod yX2_add ∈ wsL_law := zsub_13 _ (List.mem_of_getElem? (i := 22) rfl)
theorem qs_X2_add : Cond.selects RX2 yX2_add yX2_add ∈ wsL_law := zsub_13 _ (List.mem_of_getElem? (i := 23) rfl)
theorem qc_X2_add : Cond.code yX2_add cX2_add 5 (some .int) ∈ wsL_law := zsub_14 _ (List.mem_of_getElem? (i := 0) rfl)
theorem qm_RL_30 : Cond.methodLink RL 30 yX7_send ∈ wsL_law := zsub_14 _ (List.mem_of_getElem? (i := 1) rfl)
theorem qi_X7_send : Cond.instanceMethod yX7_send ∈ wsL_law := zsub_14 _ (List.mem_of_getElem? (i := 2) rfl)
theorem qs_X7_send : Cond.selects RX7 yX7_send yX7_send ∈ wsL_law := zsub_14 _ (List.mem_of_getElem? (i := 3) rfl)
theorem qc_X7_send : Cond.code yX7_send cX7_send 5 (some .int) ∈ wsL_law := zsub_14 _ (List.mem_of_getElem? (i := 4) rfl)
theorem qm_RX7_105 : Cond.methodLink RX7 105 yX7_farOf ∈ wsL_law := zsub_14 _ (List.mem_of_getElem? (i := 5) rfl)
theorem qi_X7_farOf : Cond.instanceMethod yX7_farOf ∈ wsL_law := zsub_14 _ (List.mem_of_getElem? (i := 6) rfl)
theorem qs_X7_farOf : Cond.selects RX7 yX7_farOf yX7_farOf ∈ wsL_law := zsub_14 _ (List.mem_of_getElem? (i := 7) rfl)
theorem qc_X7_farOf : Cond.code yX7_farOf cX7_farOf 3 (some .int) ∈ wsL_law := zsub_14 _ (List.mem_of_getElem? (i := 8) rfl)
theorem qm_RX7_94 : Cond.methodLink RX7 94 yX7_layFar ∈ wsL_law := zsub_14 _ (List.mem_of_getElem? (i := 9) rfl)
theorem qi_X7_layFar : Cond.instanceMethod yX7_layFar ∈ wsL_law := zsub_14 _ (List.mem_of_getElem? (i := 10) rfl)
theorem qs_X7_layFar : Cond.selects RX7 yX7_layFar yX7_layFar ∈ wsL_law := zsub_14 _ (List.mem_of_getElem? (i := 11) rfl)
theorem qc_X7_layFar : Cond.code yX7_layFar cX7_layFar 10 none ∈ wsL_law := zsub_14 _ (List.mem_of_getElem? (i := 12) rfl)
theorem qm_RX7_90 : Cond.methodLink RX7 90 yX7_moved ∈ wsL_law := zsub_14 _ (List.mem_of_getElem? (i := 13) rfl)
theorem qi_X7_moved : Cond.instanceMethod yX7_moved ∈ wsL_law := zsub_14 _ (List.mem_of_getElem? (i := 14) rfl)
theorem qs_X7_moved : Cond.selects RX7 yX7_moved yX7_moved ∈ wsL_law := zsub_14 _ (List.mem_of_getElem? (i := 15) rfl)
theorem qc_X7_moved : Cond.code yX7_moved cX7_moved 9 (some .int) ∈ wsL_law := zsub_14 _ (List.mem_of_getElem? (i := 16) rfl)
theorem qm_RX7_83 : Cond.methodLink RX7 83 yX7_isWhole ∈ wsL_law := zsub_14 _ (List.mem_of_getElem? (i := 17) rfl)
theorem qi_X7_isWhole : Cond.instanceMethod yX7_isWhole ∈ wsL_law := zsub_14 _ (List.mem_of_getElem? (i := 18) rfl)
theorem qs_X7_isWhole : Cond.selects RX7 yX7_isWhole yX7_isWhole ∈ wsL_law := zsub_14 _ (List.mem_of_getElem? (i := 19) rfl)
theorem qc_X7_isWhole : Cond.code yX7_isWhole cX7_isWhole 3 (some .boolean) ∈ wsL_law := zsub_14 _ (List.mem_of_getElem? (i := 20) rfl)
theorem qm_RX7_87 : Cond.methodLink RX7 87 yX7_isDetour ∈ wsL_law := zsub_14 _ (List.mem_of_getElem? (i := 21) rfl)
theorem qi_X7_isDetour : Cond.instanceMethod yX7_isDetour ∈ wsL_law := zsub_14 _ (List.mem_of_getElem? (i := 22) rfl)
theorem qs_X7_isDetour : Cond.selects RX7 yX7_isDetour yX7_isDetour ∈ wsL_law := zsub_14 _ (List.mem_of_getElem? (i := 23) rfl)
theorem qc_X7_isDetour : Cond.code yX7_isDetour cX7_isDetour 4 (some .boolean) ∈ wsL_law := zsub_15 _ (List.mem_of_getElem? (i := 0) rfl)
theorem qm_RX7_80 : Cond.methodLink RX7 80 yX7_apart ∈ wsL_law := zsub_15 _ (List.mem_of_getElem? (i := 1) rfl)
theorem qi_X7_apart : Cond.instanceMethod yX7_apart ∈ wsL_law := zsub_15 _ (List.mem_of_getElem? (i := 2) rfl)
theorem qs_X7_apart : Cond.selects RX7 yX7_apart yX7_apart ∈ wsL_law := zsub_15 _ (List.mem_of_getElem? (i := 3) rfl)
theorem qc_X7_apart : Cond.code yX7_apart cX7_apart 5 (some .int) ∈ wsL_law := zsub_15 _ (List.mem_of_getElem? (i := 4) rfl)
theorem qm_RX7_111 : Cond.methodLink RX7 111 yX7_book ∈ wsL_law := zsub_15 _ (List.mem_of_getElem? (i := 5) rfl)
theorem qi_X7_book : Cond.instanceMethod yX7_book ∈ wsL_law := zsub_15 _ (List.mem_of_getElem? (i := 6) rfl)
theorem qs_X7_book : Cond.selects RX7 yX7_book yX7_book ∈ wsL_law := zsub_15 _ (List.mem_of_getElem? (i := 7) rfl)
theorem qc_X7_book : Cond.code yX7_book cX7_book 4 none ∈ wsL_law := zsub_15 _ (List.mem_of_getElem? (i := 8) rfl)
theorem qm_RL_31 : Cond.methodLink RL 31 yX6_ticks ∈ wsL_law := zsub_15 _ (List.mem_of_getElem? (i := 9) rfl)
theorem qi_X6_ticks : Cond.instanceMethod yX6_ticks ∈ wsL_law := zsub_15 _ (List.mem_of_getElem? (i := 10) rfl)
theorem qs_X6_ticks : Cond.selects RX6 yX6_ticks yX6_ticks ∈ wsL_law := zsub_15 _ (List.mem_of_getElem? (i := 11) rfl)
theorem qc_X6_ticks : Cond.code yX6_ticks cX6_ticks 2 (some .int) ∈ wsL_law := zsub_15 _ (List.mem_of_getElem? (i := 12) rfl)
theorem qm_RX6_119 : Cond.methodLink RX6 119 yX6_isTicks ∈ wsL_law := zsub_15 _ (List.mem_of_getElem? (i := 13) rfl)
theorem qt_X6_isTicks : Cond.static yX6_isTicks ∈ wsL_law := zsub_15 _ (List.mem_of_getElem? (i := 14) rfl)
theorem qc_X6_isTicks : Cond.code yX6_isTicks cX6_isTicks 1 (some .boolean) ∈ wsL_law := zsub_15 _ (List.mem_of_getElem? (i := 15) rfl)
theorem qm_RX6_122 : Cond.methodLink RX6 122 yX5_passTicks ∈ wsL_law := zsub_15 _ (List.mem_of_getElem? (i := 16) rfl)
theorem qi_X5_passTicks : Cond.instanceMethod yX5_passTicks ∈ wsL_law := zsub_15 _ (List.mem_of_getElem? (i := 17) rfl)
theorem qs_X5_passTicks : Cond.selects RX5 yX5_passTicks yX5_passTicks ∈ wsL_law := zsub_15 _ (List.mem_of_getElem? (i := 18) rfl)
theorem qc_X5_passTicks : Cond.code yX5_passTicks cX5_passTicks 7 none ∈ wsL_law := zsub_15 _ (List.mem_of_getElem? (i := 19) rfl)
theorem qf_RX5_110 : Cond.fieldLink RX5 110 "MeshTurns$Packets" "sent" "I" ∈ wsL_law := zsub_15 _ (List.mem_of_getElem? (i := 20) rfl)
theorem qf_RX5_88 : Cond.fieldLink RX5 88 "MeshTurns$Packets" "place" "[I" ∈ wsL_law := zsub_15 _ (List.mem_of_getElem? (i := 21) rfl)
theorem qf_RX5_120 : Cond.fieldLink RX5 120 "MeshTurns$Packets" "waits" "[I" ∈ wsL_law := zsub_15 _ (List.mem_of_getElem? (i := 22) rfl)
theorem qm_RX5_113 : Cond.methodLink RX5 113 yX5_comesInside ∈ wsL_law := zsub_15 _ (List.mem_of_getElem? (i := 23) rfl)
theorem qi_X5_comesInside : Cond.instanceMethod yX5_comesInside ∈ wsL_law := zsub_16 _ (List.mem_of_getElem? (i := 0) rfl)
theorem qs_X5_comesInside : Cond.selects RX5 yX5_comesInside yX5_comesInside ∈ wsL_law := zsub_16 _ (List.mem_of_getElem? (i := 1) rfl)
theorem qc_X5_comesInside : Cond.code yX5_comesInside cX5_comesInside 3 (some .boolean) ∈ wsL_law := zsub_16 _ (List.mem_of_getElem? (i := 2) rfl)
theorem qf_RX5_63 : Cond.fieldLink RX5 63 "MeshTurns$Packets" "box" "[I" ∈ wsL_law := zsub_16 _ (List.mem_of_getElem? (i := 3) rfl)
theorem qm_RX5_98 : Cond.methodLink RX5 98 yX5_hasRoom ∈ wsL_law := zsub_16 _ (List.mem_of_getElem? (i := 4) rfl)
theorem qi_X5_hasRoom : Cond.instanceMethod yX5_hasRoom ∈ wsL_law := zsub_16 _ (List.mem_of_getElem? (i := 5) rfl)
theorem qs_X5_hasRoom : Cond.selects RX5 yX5_hasRoom yX5_hasRoom ∈ wsL_law := zsub_16 _ (List.mem_of_getElem? (i := 6) rfl)
theorem qc_X5_hasRoom : Cond.code yX5_hasRoom cX5_hasRoom 2 (some .boolean) ∈ wsL_law := zsub_16 _ (List.mem_of_getElem? (i := 7) rfl)
theorem qm_RX5_116 : Cond.methodLink RX5 116 yX5_movesOn ∈ wsL_law := zsub_16 _ (List.mem_of_getElem? (i := 8) rfl)
theorem qi_X5_movesOn : Cond.instanceMethod yX5_movesOn ∈ wsL_law := zsub_16 _ (List.mem_of_getElem? (i := 9) rfl)
theorem qs_X5_movesOn : Cond.selects RX5 yX5_movesOn yX5_movesOn ∈ wsL_law := zsub_16 _ (List.mem_of_getElem? (i := 10) rfl)
theorem qc_X5_movesOn : Cond.code yX5_movesOn cX5_movesOn 7 (some .boolean) ∈ wsL_law := zsub_16 _ (List.mem_of_getElem? (i := 11) rfl)
theorem qf_RX5_69 : Cond.fieldLink RX5 69 "MeshTurns$Packets" "to" "[I" ∈ wsL_law := zsub_16 _ (List.mem_of_getElem? (i := 12) rfl)
theorem qf_RX5_131 : Cond.fieldLink RX5 131 "MeshTurns$Packets" "arrivedIn" "[I" ∈ wsL_law := zsub_16 _ (List.mem_of_getElem? (i := 13) rfl)
theorem qm_RX5_123 : Cond.methodLink RX5 123 yX5_firstSide ∈ wsL_law := zsub_16 _ (List.mem_of_getElem? (i := 14) rfl)
theorem qi_X5_firstSide : Cond.instanceMethod yX5_firstSide ∈ wsL_law := zsub_16 _ (List.mem_of_getElem? (i := 15) rfl)
theorem qs_X5_firstSide : Cond.selects RX5 yX5_firstSide yX5_firstSide ∈ wsL_law := zsub_16 _ (List.mem_of_getElem? (i := 16) rfl)
theorem qc_X5_firstSide : Cond.code yX5_firstSide cX5_firstSide 9 (some .int) ∈ wsL_law := zsub_16 _ (List.mem_of_getElem? (i := 17) rfl)
theorem qf_RX5_66 : Cond.fieldLink RX5 66 "MeshTurns$Packets" "turned" "[I" ∈ wsL_law := zsub_16 _ (List.mem_of_getElem? (i := 18) rfl)
theorem qm_RX5_72 : Cond.methodLink RX5 72 yX5_mostMoves ∈ wsL_law := zsub_16 _ (List.mem_of_getElem? (i := 19) rfl)
theorem qi_X5_mostMoves : Cond.instanceMethod yX5_mostMoves ∈ wsL_law := zsub_16 _ (List.mem_of_getElem? (i := 20) rfl)
theorem qs_X5_mostMoves : Cond.selects RX5 yX5_mostMoves yX5_mostMoves ∈ wsL_law := zsub_16 _ (List.mem_of_getElem? (i := 21) rfl)
theorem qc_X5_mostMoves : Cond.code yX5_mostMoves cX5_mostMoves 3 (some .int) ∈ wsL_law := zsub_16 _ (List.mem_of_getElem? (i := 22) rfl)
theorem qf_RX5_76 : Cond.fieldLink RX5 76 "MeshTurns$Packets" "detours" "[I" ∈ wsL_law := zsub_16 _ (List.mem_of_getElem? (i := 23) rfl)
theorem qm_RX5_79 : Cond.methodLink RX5 79 Lib.Math.max.name ∈ wsL_law := zsub_17 _ (List.mem_of_getElem? (i := 0) rfl)
theorem qt_Math_max : Cond.static Lib.Math.max.name ∈ wsL_law := zsub_17 _ (List.mem_of_getElem? (i := 1) rfl)
theorem qc_Math_max : Cond.code Lib.Math.max.name Lib.Math.max.code 2 (some .int) ∈ wsL_law := zsub_17 _ (List.mem_of_getElem? (i := 2) rfl)
theorem qm_RX5_84 : Cond.methodLink RX5 84 yX4_lengthAfter ∈ wsL_law := zsub_17 _ (List.mem_of_getElem? (i := 3) rfl)
theorem qi_X4_lengthAfter : Cond.instanceMethod yX4_lengthAfter ∈ wsL_law := zsub_17 _ (List.mem_of_getElem? (i := 4) rfl)
theorem qs_X4_lengthAfter : Cond.selects RX4 yX4_lengthAfter yX4_lengthAfter ∈ wsL_law := zsub_17 _ (List.mem_of_getElem? (i := 5) rfl)
theorem qc_X4_lengthAfter : Cond.code yX4_lengthAfter cX4_lengthAfter 6 (some .int) ∈ wsL_law := zsub_17 _ (List.mem_of_getElem? (i := 6) rfl)
theorem qm_RX4_63 : Cond.methodLink RX4 63 yX4_length ∈ wsL_law := zsub_17 _ (List.mem_of_getElem? (i := 7) rfl)
theorem qm_RX5_91 : Cond.methodLink RX5 91 yX4_boxBehind ∈ wsL_law := zsub_17 _ (List.mem_of_getElem? (i := 8) rfl)
theorem qm_RX5_94 : Cond.methodLink RX5 94 yX5_letsIn ∈ wsL_law := zsub_17 _ (List.mem_of_getElem? (i := 9) rfl)
theorem qi_X5_letsIn : Cond.instanceMethod yX5_letsIn ∈ wsL_law := zsub_17 _ (List.mem_of_getElem? (i := 10) rfl)
theorem qs_X5_letsIn : Cond.selects RX5 yX5_letsIn yX5_letsIn ∈ wsL_law := zsub_17 _ (List.mem_of_getElem? (i := 11) rfl)
theorem qc_X5_letsIn : Cond.code yX5_letsIn cX5_letsIn 3 (some .boolean) ∈ wsL_law := zsub_17 _ (List.mem_of_getElem? (i := 12) rfl)
theorem qm_RX5_127 : Cond.methodLink RX5 127 yX2_noteMove ∈ wsL_law := zsub_17 _ (List.mem_of_getElem? (i := 13) rfl)
theorem qi_X2_noteMove : Cond.instanceMethod yX2_noteMove ∈ wsL_law := zsub_17 _ (List.mem_of_getElem? (i := 14) rfl)
theorem qs_X2_noteMove : Cond.selects RX2 yX2_noteMove yX2_noteMove ∈ wsL_law := zsub_17 _ (List.mem_of_getElem? (i := 15) rfl)
theorem qc_X2_noteMove : Cond.code yX2_noteMove cX2_noteMove 5 none ∈ wsL_law := zsub_17 _ (List.mem_of_getElem? (i := 16) rfl)
theorem qm_RL_35 : Cond.methodLink RL 35 yX7_ticks ∈ wsL_law := zsub_17 _ (List.mem_of_getElem? (i := 17) rfl)
theorem qi_X7_ticks : Cond.instanceMethod yX7_ticks ∈ wsL_law := zsub_17 _ (List.mem_of_getElem? (i := 18) rfl)
theorem qs_X7_ticks : Cond.selects RX7 yX7_ticks yX7_ticks ∈ wsL_law := zsub_17 _ (List.mem_of_getElem? (i := 19) rfl)
theorem qc_X7_ticks : Cond.code yX7_ticks cX7_ticks 3 (some .int) ∈ wsL_law := zsub_17 _ (List.mem_of_getElem? (i := 20) rfl)
theorem qm_RX7_128 : Cond.methodLink RX7 128 yX7_pass ∈ wsL_law := zsub_17 _ (List.mem_of_getElem? (i := 21) rfl)
theorem qi_X7_pass : Cond.instanceMethod yX7_pass ∈ wsL_law := zsub_17 _ (List.mem_of_getElem? (i := 22) rfl)
theorem qs_X7_pass : Cond.selects RX7 yX7_pass yX7_pass ∈ wsL_law := zsub_17 _ (List.mem_of_getElem? (i := 23) rfl)
theorem qc_X7_pass : Cond.code yX7_pass cX7_pass 3 none ∈ wsL_law := zsub_18 _ (List.mem_of_getElem? (i := 0) rfl)
theorem qm_RX7_98 : Cond.methodLink RX7 98 yX7_of ∈ wsL_law := zsub_18 _ (List.mem_of_getElem? (i := 1) rfl)
theorem qi_X7_of : Cond.instanceMethod yX7_of ∈ wsL_law := zsub_18 _ (List.mem_of_getElem? (i := 2) rfl)
theorem qs_X7_of : Cond.selects RX7 yX7_of yX7_of ∈ wsL_law := zsub_18 _ (List.mem_of_getElem? (i := 3) rfl)
theorem qc_X7_of : Cond.code yX7_of cX7_of 3 (some .int) ∈ wsL_law := zsub_18 _ (List.mem_of_getElem? (i := 4) rfl)
theorem qm_RX7_118 : Cond.methodLink RX7 118 yX7_hasRoom ∈ wsL_law := zsub_18 _ (List.mem_of_getElem? (i := 5) rfl)
theorem qi_X7_hasRoom : Cond.instanceMethod yX7_hasRoom ∈ wsL_law := zsub_18 _ (List.mem_of_getElem? (i := 6) rfl)
theorem qs_X7_hasRoom : Cond.selects RX7 yX7_hasRoom yX7_hasRoom ∈ wsL_law := zsub_18 _ (List.mem_of_getElem? (i := 7) rfl)
theorem qc_X7_hasRoom : Cond.code yX7_hasRoom cX7_hasRoom 2 (some .boolean) ∈ wsL_law := zsub_18 _ (List.mem_of_getElem? (i := 8) rfl)
theorem qm_RX7_108 : Cond.methodLink RX7 108 yX7_insideOf ∈ wsL_law := zsub_18 _ (List.mem_of_getElem? (i := 9) rfl)
theorem qi_X7_insideOf : Cond.instanceMethod yX7_insideOf ∈ wsL_law := zsub_18 _ (List.mem_of_getElem? (i := 10) rfl)
theorem qs_X7_insideOf : Cond.selects RX7 yX7_insideOf yX7_insideOf ∈ wsL_law := zsub_18 _ (List.mem_of_getElem? (i := 11) rfl)
theorem qc_X7_insideOf : Cond.code yX7_insideOf cX7_insideOf 4 (some .int) ∈ wsL_law := zsub_18 _ (List.mem_of_getElem? (i := 12) rfl)
theorem qm_RX7_121 : Cond.methodLink RX7 121 yX7_goesTo ∈ wsL_law := zsub_18 _ (List.mem_of_getElem? (i := 13) rfl)
theorem qi_X7_goesTo : Cond.instanceMethod yX7_goesTo ∈ wsL_law := zsub_18 _ (List.mem_of_getElem? (i := 14) rfl)
theorem qs_X7_goesTo : Cond.selects RX7 yX7_goesTo yX7_goesTo ∈ wsL_law := zsub_18 _ (List.mem_of_getElem? (i := 15) rfl)
theorem qc_X7_goesTo : Cond.code yX7_goesTo cX7_goesTo 5 (some .int) ∈ wsL_law := zsub_18 _ (List.mem_of_getElem? (i := 16) rfl)
theorem qm_RX7_115 : Cond.methodLink RX7 115 yX7_laySides ∈ wsL_law := zsub_18 _ (List.mem_of_getElem? (i := 17) rfl)
theorem qi_X7_laySides : Cond.instanceMethod yX7_laySides ∈ wsL_law := zsub_18 _ (List.mem_of_getElem? (i := 18) rfl)
theorem qs_X7_laySides : Cond.selects RX7 yX7_laySides yX7_laySides ∈ wsL_law := zsub_18 _ (List.mem_of_getElem? (i := 19) rfl)
theorem qc_X7_laySides : Cond.code yX7_laySides cX7_laySides 8 (some .int) ∈ wsL_law := zsub_18 _ (List.mem_of_getElem? (i := 20) rfl)
theorem qm_RX7_101 : Cond.methodLink RX7 101 yX7_standing ∈ wsL_law := zsub_18 _ (List.mem_of_getElem? (i := 21) rfl)
theorem qi_X7_standing : Cond.instanceMethod yX7_standing ∈ wsL_law := zsub_18 _ (List.mem_of_getElem? (i := 22) rfl)
theorem qs_X7_standing : Cond.selects RX7 yX7_standing yX7_standing ∈ wsL_law := zsub_18 _ (List.mem_of_getElem? (i := 23) rfl)
theorem qc_X7_standing : Cond.code yX7_standing cX7_standing 2 (some .int) ∈ wsL_law := zsub_19 _ (List.mem_of_getElem? (i := 0) rfl)
theorem qm_RX7_124 : Cond.methodLink RX7 124 yX7_move ∈ wsL_law := zsub_19 _ (List.mem_of_getElem? (i := 1) rfl)
theorem qi_X7_move : Cond.instanceMethod yX7_move ∈ wsL_law := zsub_19 _ (List.mem_of_getElem? (i := 2) rfl)
theorem qs_X7_move : Cond.selects RX7 yX7_move yX7_move ∈ wsL_law := zsub_19 _ (List.mem_of_getElem? (i := 3) rfl)
theorem qc_X7_move : Cond.code yX7_move cX7_move 6 none ∈ wsL_law := zsub_19 _ (List.mem_of_getElem? (i := 4) rfl)
theorem qm_RL_36 : Cond.methodLink RL 36 yX6_ofPacket ∈ wsL_law := zsub_19 _ (List.mem_of_getElem? (i := 5) rfl)
theorem qi_X6_ofPacket : Cond.instanceMethod yX6_ofPacket ∈ wsL_law := zsub_19 _ (List.mem_of_getElem? (i := 6) rfl)
theorem qs_X6_ofPacket : Cond.selects RX6 yX6_ofPacket yX6_ofPacket ∈ wsL_law := zsub_19 _ (List.mem_of_getElem? (i := 7) rfl)
theorem qc_X6_ofPacket : Cond.code yX6_ofPacket cX6_ofPacket 4 (some .int) ∈ wsL_law := zsub_19 _ (List.mem_of_getElem? (i := 8) rfl)
theorem qf_RX6_129 : Cond.fieldLink RX6 129 "MeshTurns$Packets" "from" "[I" ∈ wsL_law := zsub_19 _ (List.mem_of_getElem? (i := 9) rfl)
theorem qf_RX6_132 : Cond.fieldLink RX6 132 "MeshTurns$Packets" "to" "[I" ∈ wsL_law := zsub_19 _ (List.mem_of_getElem? (i := 10) rfl)
theorem qf_RX6_135 : Cond.fieldLink RX6 135 "MeshTurns$Packets" "place" "[I" ∈ wsL_law := zsub_19 _ (List.mem_of_getElem? (i := 11) rfl)
theorem qf_RX6_138 : Cond.fieldLink RX6 138 "MeshTurns$Packets" "box" "[I" ∈ wsL_law := zsub_19 _ (List.mem_of_getElem? (i := 12) rfl)
theorem qf_RX6_141 : Cond.fieldLink RX6 141 "MeshTurns$Packets" "moves" "[I" ∈ wsL_law := zsub_19 _ (List.mem_of_getElem? (i := 13) rfl)
theorem qf_RX6_144 : Cond.fieldLink RX6 144 "MeshTurns$Packets" "detours" "[I" ∈ wsL_law := zsub_19 _ (List.mem_of_getElem? (i := 14) rfl)
theorem qf_RX6_147 : Cond.fieldLink RX6 147 "MeshTurns$Packets" "waits" "[I" ∈ wsL_law := zsub_19 _ (List.mem_of_getElem? (i := 15) rfl)
theorem qf_RX6_150 : Cond.fieldLink RX6 150 "MeshTurns$Packets" "sentIn" "[I" ∈ wsL_law := zsub_19 _ (List.mem_of_getElem? (i := 16) rfl)
theorem qf_RX6_153 : Cond.fieldLink RX6 153 "MeshTurns$Packets" "arrivedIn" "[I" ∈ wsL_law := zsub_19 _ (List.mem_of_getElem? (i := 17) rfl)
theorem qf_RX6_156 : Cond.fieldLink RX6 156 "MeshTurns$Packets" "turned" "[I" ∈ wsL_law := zsub_19 _ (List.mem_of_getElem? (i := 18) rfl)
theorem qm_RX6_126 : Cond.methodLink RX6 126 yX2_has ∈ wsL_law := zsub_19 _ (List.mem_of_getElem? (i := 19) rfl)
theorem qi_X2_has : Cond.instanceMethod yX2_has ∈ wsL_law := zsub_19 _ (List.mem_of_getElem? (i := 20) rfl)
theorem qs_X2_has : Cond.selects RX2 yX2_has yX2_has ∈ wsL_law := zsub_19 _ (List.mem_of_getElem? (i := 21) rfl)
theorem qc_X2_has : Cond.code yX2_has cX2_has 2 (some .boolean) ∈ wsL_law := zsub_19 _ (List.mem_of_getElem? (i := 22) rfl)
theorem qm_RX6_159 : Cond.methodLink RX6 159 yX5_wayLengthOf ∈ wsL_law := zsub_19 _ (List.mem_of_getElem? (i := 23) rfl)
theorem qi_X5_wayLengthOf : Cond.instanceMethod yX5_wayLengthOf ∈ wsL_law := zsub_20 _ (List.mem_of_getElem? (i := 0) rfl)
theorem qs_X5_wayLengthOf : Cond.selects RX5 yX5_wayLengthOf yX5_wayLengthOf ∈ wsL_law := zsub_20 _ (List.mem_of_getElem? (i := 1) rfl)
theorem qc_X5_wayLengthOf : Cond.code yX5_wayLengthOf cX5_wayLengthOf 4 (some .int) ∈ wsL_law := zsub_20 _ (List.mem_of_getElem? (i := 2) rfl)
theorem qm_RX6_163 : Cond.methodLink RX6 163 yX5_firstSide ∈ wsL_law := zsub_20 _ (List.mem_of_getElem? (i := 3) rfl)
theorem qm_RX6_167 : Cond.methodLink RX6 167 yX1_holds ∈ wsL_law := zsub_20 _ (List.mem_of_getElem? (i := 4) rfl)
theorem qi_X1_holds : Cond.instanceMethod yX1_holds ∈ wsL_law := zsub_20 _ (List.mem_of_getElem? (i := 5) rfl)
theorem qs_X1_holds : Cond.selects RX1 yX1_holds yX1_holds ∈ wsL_law := zsub_20 _ (List.mem_of_getElem? (i := 6) rfl)
theorem qc_X1_holds : Cond.code yX1_holds cX1_holds 4 (some .boolean) ∈ wsL_law := zsub_20 _ (List.mem_of_getElem? (i := 7) rfl)
theorem qf_RX1_19 : Cond.fieldLink RX1 19 "MeshTurns$State" "packets" "LMeshTurns$Packets;" ∈ wsL_law := zsub_20 _ (List.mem_of_getElem? (i := 8) rfl)
theorem qm_RX1_15 : Cond.methodLink RX1 15 yX1_find ∈ wsL_law := zsub_20 _ (List.mem_of_getElem? (i := 9) rfl)
theorem qi_X1_find : Cond.instanceMethod yX1_find ∈ wsL_law := zsub_20 _ (List.mem_of_getElem? (i := 10) rfl)
theorem qs_X1_find : Cond.selects RX1 yX1_find yX1_find ∈ wsL_law := zsub_20 _ (List.mem_of_getElem? (i := 11) rfl)
theorem qc_X1_find : Cond.code yX1_find cX1_find 7 none ∈ wsL_law := zsub_20 _ (List.mem_of_getElem? (i := 12) rfl)
theorem qf_RX1_31 : Cond.fieldLink RX1 31 "MeshTurns$Packets" "sent" "I" ∈ wsL_law := zsub_20 _ (List.mem_of_getElem? (i := 13) rfl)
theorem qf_RX1_35 : Cond.fieldLink RX1 35 "MeshTurns$Packets" "place" "[I" ∈ wsL_law := zsub_20 _ (List.mem_of_getElem? (i := 14) rfl)
theorem qm_RX1_39 : Cond.methodLink RX1 39 yX1_canGoOn ∈ wsL_law := zsub_20 _ (List.mem_of_getElem? (i := 15) rfl)
theorem qi_X1_canGoOn : Cond.instanceMethod yX1_canGoOn ∈ wsL_law := zsub_20 _ (List.mem_of_getElem? (i := 16) rfl)
theorem qs_X1_canGoOn : Cond.selects RX1 yX1_canGoOn yX1_canGoOn ∈ wsL_law := zsub_20 _ (List.mem_of_getElem? (i := 17) rfl)
theorem qc_X1_canGoOn : Cond.code yX1_canGoOn cX1_canGoOn 6 (some .boolean) ∈ wsL_law := zsub_20 _ (List.mem_of_getElem? (i := 18) rfl)
theorem qf_RX1_47 : Cond.fieldLink RX1 47 "MeshTurns$Packets" "box" "[I" ∈ wsL_law := zsub_20 _ (List.mem_of_getElem? (i := 19) rfl)
theorem qm_RX1_43 : Cond.methodLink RX1 43 yX5_isPossible ∈ wsL_law := zsub_20 _ (List.mem_of_getElem? (i := 20) rfl)
theorem qi_X5_isPossible : Cond.instanceMethod yX5_isPossible ∈ wsL_law := zsub_20 _ (List.mem_of_getElem? (i := 21) rfl)
theorem qs_X5_isPossible : Cond.selects RX5 yX5_isPossible yX5_isPossible ∈ wsL_law := zsub_20 _ (List.mem_of_getElem? (i := 22) rfl)
theorem qc_X5_isPossible : Cond.code yX5_isPossible cX5_isPossible 4 (some .boolean) ∈ wsL_law := zsub_20 _ (List.mem_of_getElem? (i := 23) rfl)
theorem qm_RX1_50 : Cond.methodLink RX1 50 yX4_boxBehind ∈ wsL_law := zsub_21 _ (List.mem_of_getElem? (i := 0) rfl)
theorem qm_RX1_56 : Cond.methodLink RX1 56 yX5_letsIn ∈ wsL_law := zsub_21 _ (List.mem_of_getElem? (i := 1) rfl)
theorem qm_RX1_60 : Cond.methodLink RX1 60 yX1_hasFreePacket ∈ wsL_law := zsub_21 _ (List.mem_of_getElem? (i := 2) rfl)
theorem qi_X1_hasFreePacket : Cond.instanceMethod yX1_hasFreePacket ∈ wsL_law := zsub_21 _ (List.mem_of_getElem? (i := 3) rfl)
theorem qs_X1_hasFreePacket : Cond.selects RX1 yX1_hasFreePacket yX1_hasFreePacket ∈ wsL_law := zsub_21 _ (List.mem_of_getElem? (i := 4) rfl)
theorem qc_X1_hasFreePacket : Cond.code yX1_hasFreePacket cX1_hasFreePacket 4 (some .boolean) ∈ wsL_law := zsub_21 _ (List.mem_of_getElem? (i := 5) rfl)
theorem qm_RX1_25 : Cond.methodLink RX1 25 yX2_has ∈ wsL_law := zsub_21 _ (List.mem_of_getElem? (i := 6) rfl)
theorem qm_RL_39 : Cond.methodLink RL 39 yX7_ofPacket ∈ wsL_law := zsub_21 _ (List.mem_of_getElem? (i := 7) rfl)
theorem qi_X7_ofPacket : Cond.instanceMethod yX7_ofPacket ∈ wsL_law := zsub_21 _ (List.mem_of_getElem? (i := 8) rfl)
theorem qs_X7_ofPacket : Cond.selects RX7 yX7_ofPacket yX7_ofPacket ∈ wsL_law := zsub_21 _ (List.mem_of_getElem? (i := 9) rfl)
theorem qc_X7_ofPacket : Cond.code yX7_ofPacket cX7_ofPacket 3 (some .int) ∈ wsL_law := zsub_21 _ (List.mem_of_getElem? (i := 10) rfl)
theorem qm_RX7_134 : Cond.methodLink RX7 134 yX7_isPacket ∈ wsL_law := zsub_21 _ (List.mem_of_getElem? (i := 11) rfl)
theorem qi_X7_isPacket : Cond.instanceMethod yX7_isPacket ∈ wsL_law := zsub_21 _ (List.mem_of_getElem? (i := 12) rfl)
theorem qs_X7_isPacket : Cond.selects RX7 yX7_isPacket yX7_isPacket ∈ wsL_law := zsub_21 _ (List.mem_of_getElem? (i := 13) rfl)
theorem qc_X7_isPacket : Cond.code yX7_isPacket cX7_isPacket 2 (some .boolean) ∈ wsL_law := zsub_21 _ (List.mem_of_getElem? (i := 14) rfl)
theorem qm_RX7_137 : Cond.methodLink RX7 137 yX7_lengthOf ∈ wsL_law := zsub_21 _ (List.mem_of_getElem? (i := 15) rfl)
theorem qi_X7_lengthOf : Cond.instanceMethod yX7_lengthOf ∈ wsL_law := zsub_21 _ (List.mem_of_getElem? (i := 16) rfl)
theorem qs_X7_lengthOf : Cond.selects RX7 yX7_lengthOf yX7_lengthOf ∈ wsL_law := zsub_21 _ (List.mem_of_getElem? (i := 17) rfl)
theorem qc_X7_lengthOf : Cond.code yX7_lengthOf cX7_lengthOf 2 (some .int) ∈ wsL_law := zsub_21 _ (List.mem_of_getElem? (i := 18) rfl)
theorem qm_RX7_140 : Cond.methodLink RX7 140 yX7_layStuck ∈ wsL_law := zsub_21 _ (List.mem_of_getElem? (i := 19) rfl)
theorem qi_X7_layStuck : Cond.instanceMethod yX7_layStuck ∈ wsL_law := zsub_21 _ (List.mem_of_getElem? (i := 20) rfl)
theorem qs_X7_layStuck : Cond.selects RX7 yX7_layStuck yX7_layStuck ∈ wsL_law := zsub_21 _ (List.mem_of_getElem? (i := 21) rfl)
theorem qc_X7_layStuck : Cond.code yX7_layStuck cX7_layStuck 4 (some .int) ∈ wsL_law := zsub_21 _ (List.mem_of_getElem? (i := 22) rfl)
theorem qm_RX7_131 : Cond.methodLink RX7 131 yX7_isFree ∈ wsL_law := zsub_21 _ (List.mem_of_getElem? (i := 23) rfl)
theorem qi_X7_isFree : Cond.instanceMethod yX7_isFree ∈ wsL_law := zsub_22 _ (List.mem_of_getElem? (i := 0) rfl)
theorem qs_X7_isFree : Cond.selects RX7 yX7_isFree yX7_isFree ∈ wsL_law := zsub_22 _ (List.mem_of_getElem? (i := 1) rfl)
theorem qc_X7_isFree : Cond.code yX7_isFree cX7_isFree 7 (some .boolean) ∈ wsL_law := zsub_22 _ (List.mem_of_getElem? (i := 2) rfl)
theorem qm_RL_40 : Cond.methodLink RL 40 yX6_ofBox ∈ wsL_law := zsub_22 _ (List.mem_of_getElem? (i := 3) rfl)
theorem qi_X6_ofBox : Cond.instanceMethod yX6_ofBox ∈ wsL_law := zsub_22 _ (List.mem_of_getElem? (i := 4) rfl)
theorem qs_X6_ofBox : Cond.selects RX6 yX6_ofBox yX6_ofBox ∈ wsL_law := zsub_22 _ (List.mem_of_getElem? (i := 5) rfl)
theorem qc_X6_ofBox : Cond.code yX6_ofBox cX6_ofBox 3 (some .int) ∈ wsL_law := zsub_22 _ (List.mem_of_getElem? (i := 6) rfl)
theorem qf_RX6_178 : Cond.fieldLink RX6 178 "MeshTurns$State" "movesFrom" "[I" ∈ wsL_law := zsub_22 _ (List.mem_of_getElem? (i := 7) rfl)
theorem qm_RX6_172 : Cond.methodLink RX6 172 yX2_countAt ∈ wsL_law := zsub_22 _ (List.mem_of_getElem? (i := 8) rfl)
theorem qi_X2_countAt : Cond.instanceMethod yX2_countAt ∈ wsL_law := zsub_22 _ (List.mem_of_getElem? (i := 9) rfl)
theorem qs_X2_countAt : Cond.selects RX2 yX2_countAt yX2_countAt ∈ wsL_law := zsub_22 _ (List.mem_of_getElem? (i := 10) rfl)
theorem qc_X2_countAt : Cond.code yX2_countAt cX2_countAt 5 (some .int) ∈ wsL_law := zsub_22 _ (List.mem_of_getElem? (i := 11) rfl)
theorem qm_RX6_175 : Cond.methodLink RX6 175 yX6_linkState ∈ wsL_law := zsub_22 _ (List.mem_of_getElem? (i := 12) rfl)
theorem qi_X6_linkState : Cond.instanceMethod yX6_linkState ∈ wsL_law := zsub_22 _ (List.mem_of_getElem? (i := 13) rfl)
theorem qs_X6_linkState : Cond.selects RX6 yX6_linkState yX6_linkState ∈ wsL_law := zsub_22 _ (List.mem_of_getElem? (i := 14) rfl)
theorem qc_X6_linkState : Cond.code yX6_linkState cX6_linkState 4 (some .int) ∈ wsL_law := zsub_22 _ (List.mem_of_getElem? (i := 15) rfl)
theorem qm_RL_43 : Cond.methodLink RL 43 yX7_ofBox ∈ wsL_law := zsub_22 _ (List.mem_of_getElem? (i := 16) rfl)
theorem qi_X7_ofBox : Cond.instanceMethod yX7_ofBox ∈ wsL_law := zsub_22 _ (List.mem_of_getElem? (i := 17) rfl)
theorem qs_X7_ofBox : Cond.selects RX7 yX7_ofBox yX7_ofBox ∈ wsL_law := zsub_22 _ (List.mem_of_getElem? (i := 18) rfl)
theorem qc_X7_ofBox : Cond.code yX7_ofBox cX7_ofBox 3 (some .int) ∈ wsL_law := zsub_22 _ (List.mem_of_getElem? (i := 19) rfl)
theorem qm_RX7_143 : Cond.methodLink RX7 143 yX7_packetsOf ∈ wsL_law := zsub_22 _ (List.mem_of_getElem? (i := 20) rfl)
theorem qi_X7_packetsOf : Cond.instanceMethod yX7_packetsOf ∈ wsL_law := zsub_22 _ (List.mem_of_getElem? (i := 21) rfl)
theorem qs_X7_packetsOf : Cond.selects RX7 yX7_packetsOf yX7_packetsOf ∈ wsL_law := zsub_22 _ (List.mem_of_getElem? (i := 22) rfl)
theorem qc_X7_packetsOf : Cond.code yX7_packetsOf cX7_packetsOf 5 (some .int) ∈ wsL_law := zsub_22 _ (List.mem_of_getElem? (i := 23) rfl)
theorem qm_RL_44 : Cond.methodLink RL 44 yX6_count ∈ wsL_law := zsub_23 _ (List.mem_of_getElem? (i := 0) rfl)
theorem qi_X6_count : Cond.instanceMethod yX6_count ∈ wsL_law := zsub_23 _ (List.mem_of_getElem? (i := 1) rfl)
theorem qs_X6_count : Cond.selects RX6 yX6_count yX6_count ∈ wsL_law := zsub_23 _ (List.mem_of_getElem? (i := 2) rfl)
theorem qc_X6_count : Cond.code yX6_count cX6_count 3 (some .int) ∈ wsL_law := zsub_23 _ (List.mem_of_getElem? (i := 3) rfl)
theorem qf_RX6_181 : Cond.fieldLink RX6 181 "MeshTurns$Grid" "columns" "I" ∈ wsL_law := zsub_23 _ (List.mem_of_getElem? (i := 4) rfl)
theorem qf_RX6_198 : Cond.fieldLink RX6 198 "MeshTurns$Pad" "length" "I" ∈ wsL_law := zsub_23 _ (List.mem_of_getElem? (i := 5) rfl)
theorem qm_RX6_184 : Cond.methodLink RX6 184 yX2_countIn ∈ wsL_law := zsub_23 _ (List.mem_of_getElem? (i := 6) rfl)
theorem qi_X2_countIn : Cond.instanceMethod yX2_countIn ∈ wsL_law := zsub_23 _ (List.mem_of_getElem? (i := 7) rfl)
theorem qs_X2_countIn : Cond.selects RX2 yX2_countIn yX2_countIn ∈ wsL_law := zsub_23 _ (List.mem_of_getElem? (i := 8) rfl)
theorem qc_X2_countIn : Cond.code yX2_countIn cX2_countIn 4 (some .int) ∈ wsL_law := zsub_23 _ (List.mem_of_getElem? (i := 9) rfl)
theorem qm_RX6_187 : Cond.methodLink RX6 187 yX2_sum ∈ wsL_law := zsub_23 _ (List.mem_of_getElem? (i := 10) rfl)
theorem qi_X2_sum : Cond.instanceMethod yX2_sum ∈ wsL_law := zsub_23 _ (List.mem_of_getElem? (i := 11) rfl)
theorem qs_X2_sum : Cond.selects RX2 yX2_sum yX2_sum ∈ wsL_law := zsub_23 _ (List.mem_of_getElem? (i := 12) rfl)
theorem qc_X2_sum : Cond.code yX2_sum cX2_sum 4 (some .int) ∈ wsL_law := zsub_23 _ (List.mem_of_getElem? (i := 13) rfl)
theorem qm_RX6_191 : Cond.methodLink RX6 191 yX1_size ∈ wsL_law := zsub_23 _ (List.mem_of_getElem? (i := 14) rfl)
theorem qi_X1_size : Cond.instanceMethod yX1_size ∈ wsL_law := zsub_23 _ (List.mem_of_getElem? (i := 15) rfl)
theorem qs_X1_size : Cond.selects RX1 yX1_size yX1_size ∈ wsL_law := zsub_23 _ (List.mem_of_getElem? (i := 16) rfl)
theorem qc_X1_size : Cond.code yX1_size cX1_size 5 (some .int) ∈ wsL_law := zsub_23 _ (List.mem_of_getElem? (i := 17) rfl)
theorem qm_RX6_195 : Cond.methodLink RX6 195 yX0_brokenLinks ∈ wsL_law := zsub_23 _ (List.mem_of_getElem? (i := 18) rfl)
theorem qi_X0_brokenLinks : Cond.instanceMethod yX0_brokenLinks ∈ wsL_law := zsub_23 _ (List.mem_of_getElem? (i := 19) rfl)
theorem qs_X0_brokenLinks : Cond.selects RX0 yX0_brokenLinks yX0_brokenLinks ∈ wsL_law := zsub_23 _ (List.mem_of_getElem? (i := 20) rfl)
theorem qc_X0_brokenLinks : Cond.code yX0_brokenLinks cX0_brokenLinks 1 (some .int) ∈ wsL_law := zsub_23 _ (List.mem_of_getElem? (i := 21) rfl)
theorem qm_RX0_43 : Cond.methodLink RX0 43 yJ13_bitCount_95d88 ∈ wsL_law := zsub_23 _ (List.mem_of_getElem? (i := 22) rfl)
theorem qt_J13_bitCount_95d88 : Cond.static yJ13_bitCount_95d88 ∈ wsL_law := zsub_23 _ (List.mem_of_getElem? (i := 23) rfl)
theorem qn_RJ13 : Cond.initialized RJ13 ∈ wsL_law := zsub_24 _ (List.mem_of_getElem? (i := 0) rfl)
theorem qc_J13_bitCount_95d88 : Cond.code yJ13_bitCount_95d88 cJ13_bitCount_95d88 2 (some .int) ∈ wsL_law := zsub_24 _ (List.mem_of_getElem? (i := 1) rfl)
theorem ql_RJ13_314 : Cond.constantLong RJ13 314 (6148914691236517205) ∈ wsL_law := zsub_24 _ (List.mem_of_getElem? (i := 2) rfl)
theorem ql_RJ13_316 : Cond.constantLong RJ13 316 (3689348814741910323) ∈ wsL_law := zsub_24 _ (List.mem_of_getElem? (i := 3) rfl)
theorem ql_RJ13_318 : Cond.constantLong RJ13 318 (1085102592571150095) ∈ wsL_law := zsub_24 _ (List.mem_of_getElem? (i := 4) rfl)
theorem qm_RL_47 : Cond.methodLink RL 47 yX7_count ∈ wsL_law := zsub_24 _ (List.mem_of_getElem? (i := 5) rfl)
theorem qi_X7_count : Cond.instanceMethod yX7_count ∈ wsL_law := zsub_24 _ (List.mem_of_getElem? (i := 6) rfl)
theorem qs_X7_count : Cond.selects RX7 yX7_count yX7_count ∈ wsL_law := zsub_24 _ (List.mem_of_getElem? (i := 7) rfl)
theorem qc_X7_count : Cond.code yX7_count cX7_count 2 (some .int) ∈ wsL_law := zsub_24 _ (List.mem_of_getElem? (i := 8) rfl)
theorem qf_RX7_152 : Cond.fieldLink RX7 152 "MeshTurnsModel" "signs" "I" ∈ wsL_law := zsub_24 _ (List.mem_of_getElem? (i := 9) rfl)
theorem qm_RX7_146 : Cond.methodLink RX7 146 yX7_sum ∈ wsL_law := zsub_24 _ (List.mem_of_getElem? (i := 10) rfl)
theorem qi_X7_sum : Cond.instanceMethod yX7_sum ∈ wsL_law := zsub_24 _ (List.mem_of_getElem? (i := 11) rfl)
theorem qs_X7_sum : Cond.selects RX7 yX7_sum yX7_sum ∈ wsL_law := zsub_24 _ (List.mem_of_getElem? (i := 12) rfl)
theorem qc_X7_sum : Cond.code yX7_sum cX7_sum 4 (some .int) ∈ wsL_law := zsub_24 _ (List.mem_of_getElem? (i := 13) rfl)
theorem qm_RX7_149 : Cond.methodLink RX7 149 yX7_broken ∈ wsL_law := zsub_24 _ (List.mem_of_getElem? (i := 14) rfl)
theorem qi_X7_broken : Cond.instanceMethod yX7_broken ∈ wsL_law := zsub_24 _ (List.mem_of_getElem? (i := 15) rfl)
theorem qs_X7_broken : Cond.selects RX7 yX7_broken yX7_broken ∈ wsL_law := zsub_24 _ (List.mem_of_getElem? (i := 16) rfl)
theorem qc_X7_broken : Cond.code yX7_broken cX7_broken 3 (some .int) ∈ wsL_law := zsub_24 _ (List.mem_of_getElem? (i := 17) rfl)
theorem qm_RL_48 : Cond.methodLink RL 48 yX6_leastWay ∈ wsL_law := zsub_24 _ (List.mem_of_getElem? (i := 18) rfl)
theorem qi_X6_leastWay : Cond.instanceMethod yX6_leastWay ∈ wsL_law := zsub_24 _ (List.mem_of_getElem? (i := 19) rfl)
theorem qs_X6_leastWay : Cond.selects RX6 yX6_leastWay yX6_leastWay ∈ wsL_law := zsub_24 _ (List.mem_of_getElem? (i := 20) rfl)
theorem qc_X6_leastWay : Cond.code yX6_leastWay cX6_leastWay 3 (some .int) ∈ wsL_law := zsub_24 _ (List.mem_of_getElem? (i := 21) rfl)
theorem qm_RL_51 : Cond.methodLink RL 51 yX7_leastWay ∈ wsL_law := zsub_24 _ (List.mem_of_getElem? (i := 22) rfl)
theorem qi_X7_leastWay : Cond.instanceMethod yX7_leastWay ∈ wsL_law := zsub_24 _ (List.mem_of_getElem? (i := 23) rfl)
theorem qs_X7_leastWay : Cond.selects RX7 yX7_leastWay yX7_leastWay ∈ wsL_law := zsub_25 _ (List.mem_of_getElem? (i := 0) rfl)
theorem qc_X7_leastWay : Cond.code yX7_leastWay cX7_leastWay 3 (some .int) ∈ wsL_law := zsub_25 _ (List.mem_of_getElem? (i := 1) rfl)
theorem qm_RL_52 : Cond.methodLink RL 52 yX6_ways ∈ wsL_law := zsub_25 _ (List.mem_of_getElem? (i := 2) rfl)
theorem qi_X6_ways : Cond.instanceMethod yX6_ways ∈ wsL_law := zsub_25 _ (List.mem_of_getElem? (i := 3) rfl)
theorem qs_X6_ways : Cond.selects RX6 yX6_ways yX6_ways ∈ wsL_law := zsub_25 _ (List.mem_of_getElem? (i := 4) rfl)
theorem qc_X6_ways : Cond.code yX6_ways cX6_ways 3 (some .int) ∈ wsL_law := zsub_25 _ (List.mem_of_getElem? (i := 5) rfl)
theorem qm_RX6_205 : Cond.methodLink RX6 205 yX4_shortestWays ∈ wsL_law := zsub_25 _ (List.mem_of_getElem? (i := 6) rfl)
theorem qi_X4_shortestWays : Cond.instanceMethod yX4_shortestWays ∈ wsL_law := zsub_25 _ (List.mem_of_getElem? (i := 7) rfl)
theorem qs_X4_shortestWays : Cond.selects RX4 yX4_shortestWays yX4_shortestWays ∈ wsL_law := zsub_25 _ (List.mem_of_getElem? (i := 8) rfl)
theorem qc_X4_shortestWays : Cond.code yX4_shortestWays cX4_shortestWays 3 (some .int) ∈ wsL_law := zsub_25 _ (List.mem_of_getElem? (i := 9) rfl)
theorem qm_RL_55 : Cond.methodLink RL 55 yX7_ways ∈ wsL_law := zsub_25 _ (List.mem_of_getElem? (i := 10) rfl)
theorem qi_X7_ways : Cond.instanceMethod yX7_ways ∈ wsL_law := zsub_25 _ (List.mem_of_getElem? (i := 11) rfl)
theorem qs_X7_ways : Cond.selects RX7 yX7_ways yX7_ways ∈ wsL_law := zsub_25 _ (List.mem_of_getElem? (i := 12) rfl)
theorem qc_X7_ways : Cond.code yX7_ways cX7_ways 3 (some .int) ∈ wsL_law := zsub_25 _ (List.mem_of_getElem? (i := 13) rfl)
theorem qm_RL_56 : Cond.methodLink RL 56 yX6_pairs ∈ wsL_law := zsub_25 _ (List.mem_of_getElem? (i := 14) rfl)
theorem qi_X6_pairs : Cond.instanceMethod yX6_pairs ∈ wsL_law := zsub_25 _ (List.mem_of_getElem? (i := 15) rfl)
theorem qs_X6_pairs : Cond.selects RX6 yX6_pairs yX6_pairs ∈ wsL_law := zsub_25 _ (List.mem_of_getElem? (i := 16) rfl)
theorem qc_X6_pairs : Cond.code yX6_pairs cX6_pairs 1 (some .int) ∈ wsL_law := zsub_25 _ (List.mem_of_getElem? (i := 17) rfl)
theorem qm_RX6_208 : Cond.methodLink RX6 208 yX5_connectedPairs ∈ wsL_law := zsub_25 _ (List.mem_of_getElem? (i := 18) rfl)
theorem qi_X5_connectedPairs : Cond.instanceMethod yX5_connectedPairs ∈ wsL_law := zsub_25 _ (List.mem_of_getElem? (i := 19) rfl)
theorem qs_X5_connectedPairs : Cond.selects RX5 yX5_connectedPairs yX5_connectedPairs ∈ wsL_law := zsub_25 _ (List.mem_of_getElem? (i := 20) rfl)
theorem qc_X5_connectedPairs : Cond.code yX5_connectedPairs cX5_connectedPairs 6 (some .int) ∈ wsL_law := zsub_25 _ (List.mem_of_getElem? (i := 21) rfl)
theorem qm_RX5_102 : Cond.methodLink RX5 102 yX0_boxes ∈ wsL_law := zsub_25 _ (List.mem_of_getElem? (i := 22) rfl)
theorem qm_RX5_106 : Cond.methodLink RX5 106 yX5_wayLength ∈ wsL_law := zsub_25 _ (List.mem_of_getElem? (i := 23) rfl)
theorem qm_RL_60 : Cond.methodLink RL 60 yX7_pairs ∈ wsL_law := zsub_26 _ (List.mem_of_getElem? (i := 0) rfl)
theorem qi_X7_pairs : Cond.instanceMethod yX7_pairs ∈ wsL_law := zsub_26 _ (List.mem_of_getElem? (i := 1) rfl)
theorem qs_X7_pairs : Cond.selects RX7 yX7_pairs yX7_pairs ∈ wsL_law := zsub_26 _ (List.mem_of_getElem? (i := 2) rfl)
theorem qc_X7_pairs : Cond.code yX7_pairs cX7_pairs 1 (some .int) ∈ wsL_law := zsub_26 _ (List.mem_of_getElem? (i := 3) rfl)
theorem qm_RX7_155 : Cond.methodLink RX7 155 yX7_pairsNow ∈ wsL_law := zsub_26 _ (List.mem_of_getElem? (i := 4) rfl)
theorem qi_X7_pairsNow : Cond.instanceMethod yX7_pairsNow ∈ wsL_law := zsub_26 _ (List.mem_of_getElem? (i := 5) rfl)
theorem qs_X7_pairsNow : Cond.selects RX7 yX7_pairsNow yX7_pairsNow ∈ wsL_law := zsub_26 _ (List.mem_of_getElem? (i := 6) rfl)
theorem qc_X7_pairsNow : Cond.code yX7_pairsNow cX7_pairsNow 4 (some .int) ∈ wsL_law := zsub_26 _ (List.mem_of_getElem? (i := 7) rfl)
theorem qm_RL_61 : Cond.methodLink RL 61 yX6_worstLink ∈ wsL_law := zsub_26 _ (List.mem_of_getElem? (i := 8) rfl)
theorem qi_X6_worstLink : Cond.instanceMethod yX6_worstLink ∈ wsL_law := zsub_26 _ (List.mem_of_getElem? (i := 9) rfl)
theorem qs_X6_worstLink : Cond.selects RX6 yX6_worstLink yX6_worstLink ∈ wsL_law := zsub_26 _ (List.mem_of_getElem? (i := 10) rfl)
theorem qc_X6_worstLink : Cond.code yX6_worstLink cX6_worstLink 3 (some .int) ∈ wsL_law := zsub_26 _ (List.mem_of_getElem? (i := 11) rfl)
theorem qm_RX6_212 : Cond.methodLink RX6 212 yX6_findWorstLink ∈ wsL_law := zsub_26 _ (List.mem_of_getElem? (i := 12) rfl)
theorem qi_X6_findWorstLink : Cond.instanceMethod yX6_findWorstLink ∈ wsL_law := zsub_26 _ (List.mem_of_getElem? (i := 13) rfl)
theorem qs_X6_findWorstLink : Cond.selects RX6 yX6_findWorstLink yX6_findWorstLink ∈ wsL_law := zsub_26 _ (List.mem_of_getElem? (i := 14) rfl)
theorem qc_X6_findWorstLink : Cond.code yX6_findWorstLink cX6_findWorstLink 5 (some .int) ∈ wsL_law := zsub_26 _ (List.mem_of_getElem? (i := 15) rfl)
theorem qm_RX6_283 : Cond.methodLink RX6 283 yX0_isLink ∈ wsL_law := zsub_26 _ (List.mem_of_getElem? (i := 16) rfl)
theorem qi_X0_isLink : Cond.instanceMethod yX0_isLink ∈ wsL_law := zsub_26 _ (List.mem_of_getElem? (i := 17) rfl)
theorem qs_X0_isLink : Cond.selects RX0 yX0_isLink yX0_isLink ∈ wsL_law := zsub_26 _ (List.mem_of_getElem? (i := 18) rfl)
theorem qc_X0_isLink : Cond.code yX0_isLink cX0_isLink 2 (some .boolean) ∈ wsL_law := zsub_26 _ (List.mem_of_getElem? (i := 19) rfl)
theorem qm_RX0_35 : Cond.methodLink RX0 35 yX0_boxOfLink ∈ wsL_law := zsub_26 _ (List.mem_of_getElem? (i := 20) rfl)
theorem qt_X0_boxOfLink : Cond.static yX0_boxOfLink ∈ wsL_law := zsub_26 _ (List.mem_of_getElem? (i := 21) rfl)
theorem qc_X0_boxOfLink : Cond.code yX0_boxOfLink cX0_boxOfLink 1 (some .int) ∈ wsL_law := zsub_26 _ (List.mem_of_getElem? (i := 22) rfl)
theorem qm_RX0_38 : Cond.methodLink RX0 38 yX0_sideOfLink ∈ wsL_law := zsub_26 _ (List.mem_of_getElem? (i := 23) rfl)
theorem qt_X0_sideOfLink : Cond.static yX0_sideOfLink ∈ wsL_law := zsub_27 _ (List.mem_of_getElem? (i := 0) rfl)
theorem qc_X0_sideOfLink : Cond.code yX0_sideOfLink cX0_sideOfLink 1 (some .int) ∈ wsL_law := zsub_27 _ (List.mem_of_getElem? (i := 1) rfl)
theorem qm_RX6_221 : Cond.methodLink RX6 221 yX6_pairsWithout ∈ wsL_law := zsub_27 _ (List.mem_of_getElem? (i := 2) rfl)
theorem qi_X6_pairsWithout : Cond.instanceMethod yX6_pairsWithout ∈ wsL_law := zsub_27 _ (List.mem_of_getElem? (i := 3) rfl)
theorem qs_X6_pairsWithout : Cond.selects RX6 yX6_pairsWithout yX6_pairsWithout ∈ wsL_law := zsub_27 _ (List.mem_of_getElem? (i := 4) rfl)
theorem qc_X6_pairsWithout : Cond.code yX6_pairsWithout cX6_pairsWithout 2 (some .int) ∈ wsL_law := zsub_27 _ (List.mem_of_getElem? (i := 5) rfl)
theorem qm_RX6_215 : Cond.methodLink RX6 215 yX0_boxOfLink ∈ wsL_law := zsub_27 _ (List.mem_of_getElem? (i := 6) rfl)
theorem qm_RX6_218 : Cond.methodLink RX6 218 yX0_sideOfLink ∈ wsL_law := zsub_27 _ (List.mem_of_getElem? (i := 7) rfl)
theorem qm_RL_64 : Cond.methodLink RL 64 yX7_worstLink ∈ wsL_law := zsub_27 _ (List.mem_of_getElem? (i := 8) rfl)
theorem qi_X7_worstLink : Cond.instanceMethod yX7_worstLink ∈ wsL_law := zsub_27 _ (List.mem_of_getElem? (i := 9) rfl)
theorem qs_X7_worstLink : Cond.selects RX7 yX7_worstLink yX7_worstLink ∈ wsL_law := zsub_27 _ (List.mem_of_getElem? (i := 10) rfl)
theorem qc_X7_worstLink : Cond.code yX7_worstLink cX7_worstLink 7 (some .int) ∈ wsL_law := zsub_27 _ (List.mem_of_getElem? (i := 11) rfl)
theorem qm_RL_65 : Cond.methodLink RL 65 yX6_busiest ∈ wsL_law := zsub_27 _ (List.mem_of_getElem? (i := 12) rfl)
theorem qi_X6_busiest : Cond.instanceMethod yX6_busiest ∈ wsL_law := zsub_27 _ (List.mem_of_getElem? (i := 13) rfl)
theorem qs_X6_busiest : Cond.selects RX6 yX6_busiest yX6_busiest ∈ wsL_law := zsub_27 _ (List.mem_of_getElem? (i := 14) rfl)
theorem qc_X6_busiest : Cond.code yX6_busiest cX6_busiest 4 (some .int) ∈ wsL_law := zsub_27 _ (List.mem_of_getElem? (i := 15) rfl)
theorem qm_RL_68 : Cond.methodLink RL 68 yX7_busiest ∈ wsL_law := zsub_27 _ (List.mem_of_getElem? (i := 16) rfl)
theorem qi_X7_busiest : Cond.instanceMethod yX7_busiest ∈ wsL_law := zsub_27 _ (List.mem_of_getElem? (i := 17) rfl)
theorem qs_X7_busiest : Cond.selects RX7 yX7_busiest yX7_busiest ∈ wsL_law := zsub_27 _ (List.mem_of_getElem? (i := 18) rfl)
theorem qc_X7_busiest : Cond.code yX7_busiest cX7_busiest 4 (some .int) ∈ wsL_law := zsub_27 _ (List.mem_of_getElem? (i := 19) rfl)
theorem qm_RL_69 : Cond.methodLink RL 69 yX6_arrivesIn ∈ wsL_law := zsub_27 _ (List.mem_of_getElem? (i := 20) rfl)
theorem qi_X6_arrivesIn : Cond.instanceMethod yX6_arrivesIn ∈ wsL_law := zsub_27 _ (List.mem_of_getElem? (i := 21) rfl)
theorem qs_X6_arrivesIn : Cond.selects RX6 yX6_arrivesIn yX6_arrivesIn ∈ wsL_law := zsub_27 _ (List.mem_of_getElem? (i := 22) rfl)
theorem qc_X6_arrivesIn : Cond.code yX6_arrivesIn cX6_arrivesIn 3 (some .int) ∈ wsL_law := zsub_27 _ (List.mem_of_getElem? (i := 23) rfl)
theorem qm_RL_72 : Cond.methodLink RL 72 yX7_arrivesIn ∈ wsL_law := zsub_28 _ (List.mem_of_getElem? (i := 0) rfl)
theorem qi_X7_arrivesIn : Cond.instanceMethod yX7_arrivesIn ∈ wsL_law := zsub_28 _ (List.mem_of_getElem? (i := 1) rfl)
theorem qs_X7_arrivesIn : Cond.selects RX7 yX7_arrivesIn yX7_arrivesIn ∈ wsL_law := zsub_28 _ (List.mem_of_getElem? (i := 2) rfl)
theorem qc_X7_arrivesIn : Cond.code yX7_arrivesIn cX7_arrivesIn 4 (some .int) ∈ wsL_law := zsub_28 _ (List.mem_of_getElem? (i := 3) rfl)
theorem qm_RX7_158 : Cond.methodLink RX7 158 yX7_keep ∈ wsL_law := zsub_28 _ (List.mem_of_getElem? (i := 4) rfl)
theorem qi_X7_keep : Cond.instanceMethod yX7_keep ∈ wsL_law := zsub_28 _ (List.mem_of_getElem? (i := 5) rfl)
theorem qs_X7_keep : Cond.selects RX7 yX7_keep yX7_keep ∈ wsL_law := zsub_28 _ (List.mem_of_getElem? (i := 6) rfl)
theorem qc_X7_keep : Cond.code yX7_keep cX7_keep 2 none ∈ wsL_law := zsub_28 _ (List.mem_of_getElem? (i := 7) rfl)
theorem qm_RX7_161 : Cond.methodLink RX7 161 yX7_comeBack ∈ wsL_law := zsub_28 _ (List.mem_of_getElem? (i := 8) rfl)
theorem qi_X7_comeBack : Cond.instanceMethod yX7_comeBack ∈ wsL_law := zsub_28 _ (List.mem_of_getElem? (i := 9) rfl)
theorem qs_X7_comeBack : Cond.selects RX7 yX7_comeBack yX7_comeBack ∈ wsL_law := zsub_28 _ (List.mem_of_getElem? (i := 10) rfl)
theorem qc_X7_comeBack : Cond.code yX7_comeBack cX7_comeBack 2 none ∈ wsL_law := zsub_28 _ (List.mem_of_getElem? (i := 11) rfl)
theorem qm_RL_73 : Cond.methodLink RL 73 yX6_arrivedBy ∈ wsL_law := zsub_28 _ (List.mem_of_getElem? (i := 12) rfl)
theorem qi_X6_arrivedBy : Cond.instanceMethod yX6_arrivedBy ∈ wsL_law := zsub_28 _ (List.mem_of_getElem? (i := 13) rfl)
theorem qs_X6_arrivedBy : Cond.selects RX6 yX6_arrivedBy yX6_arrivedBy ∈ wsL_law := zsub_28 _ (List.mem_of_getElem? (i := 14) rfl)
theorem qc_X6_arrivedBy : Cond.code yX6_arrivedBy cX6_arrivedBy 2 (some .int) ∈ wsL_law := zsub_28 _ (List.mem_of_getElem? (i := 15) rfl)
theorem qm_RL_76 : Cond.methodLink RL 76 yX7_arrivedBy ∈ wsL_law := zsub_28 _ (List.mem_of_getElem? (i := 16) rfl)
theorem qi_X7_arrivedBy : Cond.instanceMethod yX7_arrivedBy ∈ wsL_law := zsub_28 _ (List.mem_of_getElem? (i := 17) rfl)
theorem qs_X7_arrivedBy : Cond.selects RX7 yX7_arrivedBy yX7_arrivedBy ∈ wsL_law := zsub_28 _ (List.mem_of_getElem? (i := 18) rfl)
theorem qc_X7_arrivedBy : Cond.code yX7_arrivedBy cX7_arrivedBy 3 (some .int) ∈ wsL_law := zsub_28 _ (List.mem_of_getElem? (i := 19) rfl)
theorem qm_RL_79 : Cond.methodLink RL 79 yX6_put ∈ wsL_law := zsub_28 _ (List.mem_of_getElem? (i := 20) rfl)
theorem qi_X6_put : Cond.instanceMethod yX6_put ∈ wsL_law := zsub_28 _ (List.mem_of_getElem? (i := 21) rfl)
theorem qs_X6_put : Cond.selects RX6 yX6_put yX6_put ∈ wsL_law := zsub_28 _ (List.mem_of_getElem? (i := 22) rfl)
theorem qc_X6_put : Cond.code yX6_put cX6_put 4 (some .int) ∈ wsL_law := zsub_28 _ (List.mem_of_getElem? (i := 23) rfl)
theorem qm_RX6_228 : Cond.methodLink RX6 228 yX3_countCharacters ∈ wsL_law := zsub_29 _ (List.mem_of_getElem? (i := 0) rfl)
theorem qt_X3_countCharacters : Cond.static yX3_countCharacters ∈ wsL_law := zsub_29 _ (List.mem_of_getElem? (i := 1) rfl)
theorem qc_X3_countCharacters : Cond.code yX3_countCharacters cX3_countCharacters 7 (some .int) ∈ wsL_law := zsub_29 _ (List.mem_of_getElem? (i := 2) rfl)
theorem ql_RX3_35 : Cond.constantLong RX3 35 (255) ∈ wsL_law := zsub_29 _ (List.mem_of_getElem? (i := 3) rfl)
theorem qm_RX6_232 : Cond.methodLink RX6 232 yX3_fits ∈ wsL_law := zsub_29 _ (List.mem_of_getElem? (i := 4) rfl)
theorem qi_X3_fits : Cond.instanceMethod yX3_fits ∈ wsL_law := zsub_29 _ (List.mem_of_getElem? (i := 5) rfl)
theorem qs_X3_fits : Cond.selects RX3 yX3_fits yX3_fits ∈ wsL_law := zsub_29 _ (List.mem_of_getElem? (i := 6) rfl)
theorem qc_X3_fits : Cond.code yX3_fits cX3_fits 2 (some .boolean) ∈ wsL_law := zsub_29 _ (List.mem_of_getElem? (i := 7) rfl)
theorem qm_RX6_235 : Cond.methodLink RX6 235 yX3_append ∈ wsL_law := zsub_29 _ (List.mem_of_getElem? (i := 8) rfl)
theorem qi_X3_append : Cond.instanceMethod yX3_append ∈ wsL_law := zsub_29 _ (List.mem_of_getElem? (i := 9) rfl)
theorem qs_X3_append : Cond.selects RX3 yX3_append yX3_append ∈ wsL_law := zsub_29 _ (List.mem_of_getElem? (i := 10) rfl)
theorem qc_X3_append : Cond.code yX3_append cX3_append 6 none ∈ wsL_law := zsub_29 _ (List.mem_of_getElem? (i := 11) rfl)
theorem qm_RX3_37 : Cond.methodLink RX3 37 yX3_fits ∈ wsL_law := zsub_29 _ (List.mem_of_getElem? (i := 12) rfl)
theorem qm_RL_83 : Cond.methodLink RL 83 yX7_put ∈ wsL_law := zsub_29 _ (List.mem_of_getElem? (i := 13) rfl)
theorem qi_X7_put : Cond.instanceMethod yX7_put ∈ wsL_law := zsub_29 _ (List.mem_of_getElem? (i := 14) rfl)
theorem qs_X7_put : Cond.selects RX7 yX7_put yX7_put ∈ wsL_law := zsub_29 _ (List.mem_of_getElem? (i := 15) rfl)
theorem qc_X7_put : Cond.code yX7_put cX7_put 7 (some .int) ∈ wsL_law := zsub_29 _ (List.mem_of_getElem? (i := 16) rfl)
theorem ql_RX7_185 : Cond.constantLong RX7 185 (255) ∈ wsL_law := zsub_29 _ (List.mem_of_getElem? (i := 17) rfl)
theorem qm_RL_84 : Cond.methodLink RL 84 yX6_wipe ∈ wsL_law := zsub_29 _ (List.mem_of_getElem? (i := 18) rfl)
theorem qi_X6_wipe : Cond.instanceMethod yX6_wipe ∈ wsL_law := zsub_29 _ (List.mem_of_getElem? (i := 19) rfl)
theorem qs_X6_wipe : Cond.selects RX6 yX6_wipe yX6_wipe ∈ wsL_law := zsub_29 _ (List.mem_of_getElem? (i := 20) rfl)
theorem qc_X6_wipe : Cond.code yX6_wipe cX6_wipe 2 (some .int) ∈ wsL_law := zsub_29 _ (List.mem_of_getElem? (i := 21) rfl)
theorem qm_RL_87 : Cond.methodLink RL 87 yX7_wipe ∈ wsL_law := zsub_29 _ (List.mem_of_getElem? (i := 22) rfl)
theorem qi_X7_wipe : Cond.instanceMethod yX7_wipe ∈ wsL_law := zsub_29 _ (List.mem_of_getElem? (i := 23) rfl)
theorem qs_X7_wipe : Cond.selects RX7 yX7_wipe yX7_wipe ∈ wsL_law := zsub_30 _ (List.mem_of_getElem? (i := 0) rfl)
theorem qc_X7_wipe : Cond.code yX7_wipe cX7_wipe 2 (some .int) ∈ wsL_law := zsub_30 _ (List.mem_of_getElem? (i := 1) rfl)
theorem qm_RL_88 : Cond.methodLink RL 88 yX6_fault ∈ wsL_law := zsub_30 _ (List.mem_of_getElem? (i := 2) rfl)
theorem qi_X6_fault : Cond.instanceMethod yX6_fault ∈ wsL_law := zsub_30 _ (List.mem_of_getElem? (i := 3) rfl)
theorem qs_X6_fault : Cond.selects RX6 yX6_fault yX6_fault ∈ wsL_law := zsub_30 _ (List.mem_of_getElem? (i := 4) rfl)
theorem qc_X6_fault : Cond.code yX6_fault cX6_fault 1 (some .int) ∈ wsL_law := zsub_30 _ (List.mem_of_getElem? (i := 5) rfl)
theorem qm_RX6_239 : Cond.methodLink RX6 239 yX3_readOrders ∈ wsL_law := zsub_30 _ (List.mem_of_getElem? (i := 6) rfl)
theorem qi_X3_readOrders : Cond.instanceMethod yX3_readOrders ∈ wsL_law := zsub_30 _ (List.mem_of_getElem? (i := 7) rfl)
theorem qs_X3_readOrders : Cond.selects RX3 yX3_readOrders yX3_readOrders ∈ wsL_law := zsub_30 _ (List.mem_of_getElem? (i := 8) rfl)
theorem qc_X3_readOrders : Cond.code yX3_readOrders cX3_readOrders 2 (some .int) ∈ wsL_law := zsub_30 _ (List.mem_of_getElem? (i := 9) rfl)
theorem qm_RX3_41 : Cond.methodLink RX3 41 yX3_readOrder ∈ wsL_law := zsub_30 _ (List.mem_of_getElem? (i := 10) rfl)
theorem qi_X3_readOrder : Cond.instanceMethod yX3_readOrder ∈ wsL_law := zsub_30 _ (List.mem_of_getElem? (i := 11) rfl)
theorem qs_X3_readOrder : Cond.selects RX3 yX3_readOrder yX3_readOrder ∈ wsL_law := zsub_30 _ (List.mem_of_getElem? (i := 12) rfl)
theorem qc_X3_readOrder : Cond.code yX3_readOrder cX3_readOrder 4 (some .boolean) ∈ wsL_law := zsub_30 _ (List.mem_of_getElem? (i := 13) rfl)
theorem qm_RX3_49 : Cond.methodLink RX3 49 yX3_signHere ∈ wsL_law := zsub_30 _ (List.mem_of_getElem? (i := 14) rfl)
theorem qi_X3_signHere : Cond.instanceMethod yX3_signHere ∈ wsL_law := zsub_30 _ (List.mem_of_getElem? (i := 15) rfl)
theorem qs_X3_signHere : Cond.selects RX3 yX3_signHere yX3_signHere ∈ wsL_law := zsub_30 _ (List.mem_of_getElem? (i := 16) rfl)
theorem qc_X3_signHere : Cond.code yX3_signHere cX3_signHere 1 (some .char) ∈ wsL_law := zsub_30 _ (List.mem_of_getElem? (i := 17) rfl)
theorem qm_RX3_53 : Cond.methodLink RX3 53 yX3_readNumber ∈ wsL_law := zsub_30 _ (List.mem_of_getElem? (i := 18) rfl)
theorem qi_X3_readNumber : Cond.instanceMethod yX3_readNumber ∈ wsL_law := zsub_30 _ (List.mem_of_getElem? (i := 19) rfl)
theorem qs_X3_readNumber : Cond.selects RX3 yX3_readNumber yX3_readNumber ∈ wsL_law := zsub_30 _ (List.mem_of_getElem? (i := 20) rfl)
theorem qc_X3_readNumber : Cond.code yX3_readNumber cX3_readNumber 3 (some .int) ∈ wsL_law := zsub_30 _ (List.mem_of_getElem? (i := 21) rfl)
theorem qm_RX3_60 : Cond.methodLink RX3 60 yX3_readDigit ∈ wsL_law := zsub_30 _ (List.mem_of_getElem? (i := 22) rfl)
theorem qi_X3_readDigit : Cond.instanceMethod yX3_readDigit ∈ wsL_law := zsub_30 _ (List.mem_of_getElem? (i := 23) rfl)
theorem qs_X3_readDigit : Cond.selects RX3 yX3_readDigit yX3_readDigit ∈ wsL_law := zsub_31 _ (List.mem_of_getElem? (i := 0) rfl)
theorem qc_X3_readDigit : Cond.code yX3_readDigit cX3_readDigit 2 (some .int) ∈ wsL_law := zsub_31 _ (List.mem_of_getElem? (i := 1) rfl)
theorem qm_RX3_45 : Cond.methodLink RX3 45 yX3_readSign ∈ wsL_law := zsub_31 _ (List.mem_of_getElem? (i := 2) rfl)
theorem qi_X3_readSign : Cond.instanceMethod yX3_readSign ∈ wsL_law := zsub_31 _ (List.mem_of_getElem? (i := 3) rfl)
theorem qs_X3_readSign : Cond.selects RX3 yX3_readSign yX3_readSign ∈ wsL_law := zsub_31 _ (List.mem_of_getElem? (i := 4) rfl)
theorem qc_X3_readSign : Cond.code yX3_readSign cX3_readSign 2 (some .boolean) ∈ wsL_law := zsub_31 _ (List.mem_of_getElem? (i := 5) rfl)
theorem qm_RX3_57 : Cond.methodLink RX3 57 yX3_readSide ∈ wsL_law := zsub_31 _ (List.mem_of_getElem? (i := 6) rfl)
theorem qi_X3_readSide : Cond.instanceMethod yX3_readSide ∈ wsL_law := zsub_31 _ (List.mem_of_getElem? (i := 7) rfl)
theorem qs_X3_readSide : Cond.selects RX3 yX3_readSide yX3_readSide ∈ wsL_law := zsub_31 _ (List.mem_of_getElem? (i := 8) rfl)
theorem qc_X3_readSide : Cond.code yX3_readSide cX3_readSide 3 (some .int) ∈ wsL_law := zsub_31 _ (List.mem_of_getElem? (i := 9) rfl)
theorem qm_RX3_63 : Cond.methodLink RX3 63 yX3_sideOfSign ∈ wsL_law := zsub_31 _ (List.mem_of_getElem? (i := 10) rfl)
theorem qt_X3_sideOfSign : Cond.static yX3_sideOfSign ∈ wsL_law := zsub_31 _ (List.mem_of_getElem? (i := 11) rfl)
theorem qc_X3_sideOfSign : Cond.code yX3_sideOfSign cX3_sideOfSign 1 (some .int) ∈ wsL_law := zsub_31 _ (List.mem_of_getElem? (i := 12) rfl)
theorem qm_RL_91 : Cond.methodLink RL 91 yX7_fault ∈ wsL_law := zsub_31 _ (List.mem_of_getElem? (i := 13) rfl)
theorem qi_X7_fault : Cond.instanceMethod yX7_fault ∈ wsL_law := zsub_31 _ (List.mem_of_getElem? (i := 14) rfl)
theorem qs_X7_fault : Cond.selects RX7 yX7_fault yX7_fault ∈ wsL_law := zsub_31 _ (List.mem_of_getElem? (i := 15) rfl)
theorem qc_X7_fault : Cond.code yX7_fault cX7_fault 1 (some .int) ∈ wsL_law := zsub_31 _ (List.mem_of_getElem? (i := 16) rfl)
theorem qm_RX7_187 : Cond.methodLink RX7 187 yX7_faultOf ∈ wsL_law := zsub_31 _ (List.mem_of_getElem? (i := 17) rfl)
theorem qi_X7_faultOf : Cond.instanceMethod yX7_faultOf ∈ wsL_law := zsub_31 _ (List.mem_of_getElem? (i := 18) rfl)
theorem qs_X7_faultOf : Cond.selects RX7 yX7_faultOf yX7_faultOf ∈ wsL_law := zsub_31 _ (List.mem_of_getElem? (i := 19) rfl)
theorem qc_X7_faultOf : Cond.code yX7_faultOf cX7_faultOf 1 (some .int) ∈ wsL_law := zsub_31 _ (List.mem_of_getElem? (i := 20) rfl)
theorem qf_RX7_164 : Cond.fieldLink RX7 164 "MeshTurnsModel" "place" "I" ∈ wsL_law := zsub_31 _ (List.mem_of_getElem? (i := 21) rfl)
theorem qf_RX7_173 : Cond.fieldLink RX7 173 "MeshTurnsModel" "read" "I" ∈ wsL_law := zsub_31 _ (List.mem_of_getElem? (i := 22) rfl)
theorem qf_RX7_170 : Cond.fieldLink RX7 170 "MeshTurnsModel" "isWrong" "Z" ∈ wsL_law := zsub_31 _ (List.mem_of_getElem? (i := 23) rfl)
theorem qm_RX7_182 : Cond.methodLink RX7 182 yX7_readOne ∈ wsL_law := zsub_32 _ (List.mem_of_getElem? (i := 0) rfl)
theorem qi_X7_readOne : Cond.instanceMethod yX7_readOne ∈ wsL_law := zsub_32 _ (List.mem_of_getElem? (i := 1) rfl)
theorem qs_X7_readOne : Cond.selects RX7 yX7_readOne yX7_readOne ∈ wsL_law := zsub_32 _ (List.mem_of_getElem? (i := 2) rfl)
theorem qc_X7_readOne : Cond.code yX7_readOne cX7_readOne 3 none ∈ wsL_law := zsub_32 _ (List.mem_of_getElem? (i := 3) rfl)
theorem qm_RX7_167 : Cond.methodLink RX7 167 yX7_sign ∈ wsL_law := zsub_32 _ (List.mem_of_getElem? (i := 4) rfl)
theorem qi_X7_sign : Cond.instanceMethod yX7_sign ∈ wsL_law := zsub_32 _ (List.mem_of_getElem? (i := 5) rfl)
theorem qs_X7_sign : Cond.selects RX7 yX7_sign yX7_sign ∈ wsL_law := zsub_32 _ (List.mem_of_getElem? (i := 6) rfl)
theorem qc_X7_sign : Cond.code yX7_sign cX7_sign 1 (some .int) ∈ wsL_law := zsub_32 _ (List.mem_of_getElem? (i := 7) rfl)
theorem qm_RX7_176 : Cond.methodLink RX7 176 yX7_number ∈ wsL_law := zsub_32 _ (List.mem_of_getElem? (i := 8) rfl)
theorem qi_X7_number : Cond.instanceMethod yX7_number ∈ wsL_law := zsub_32 _ (List.mem_of_getElem? (i := 9) rfl)
theorem qs_X7_number : Cond.selects RX7 yX7_number yX7_number ∈ wsL_law := zsub_32 _ (List.mem_of_getElem? (i := 10) rfl)
theorem qc_X7_number : Cond.code yX7_number cX7_number 2 (some .int) ∈ wsL_law := zsub_32 _ (List.mem_of_getElem? (i := 11) rfl)
theorem qm_RX7_179 : Cond.methodLink RX7 179 yX7_side ∈ wsL_law := zsub_32 _ (List.mem_of_getElem? (i := 12) rfl)
theorem qi_X7_side : Cond.instanceMethod yX7_side ∈ wsL_law := zsub_32 _ (List.mem_of_getElem? (i := 13) rfl)
theorem qs_X7_side : Cond.selects RX7 yX7_side yX7_side ∈ wsL_law := zsub_32 _ (List.mem_of_getElem? (i := 14) rfl)
theorem qc_X7_side : Cond.code yX7_side cX7_side 3 (some .int) ∈ wsL_law := zsub_32 _ (List.mem_of_getElem? (i := 15) rfl)
theorem qm_RL_92 : Cond.methodLink RL 92 yX6_carryOut ∈ wsL_law := zsub_32 _ (List.mem_of_getElem? (i := 16) rfl)
theorem qi_X6_carryOut : Cond.instanceMethod yX6_carryOut ∈ wsL_law := zsub_32 _ (List.mem_of_getElem? (i := 17) rfl)
theorem qs_X6_carryOut : Cond.selects RX6 yX6_carryOut yX6_carryOut ∈ wsL_law := zsub_32 _ (List.mem_of_getElem? (i := 18) rfl)
theorem qc_X6_carryOut : Cond.code yX6_carryOut cX6_carryOut 2 (some .int) ∈ wsL_law := zsub_32 _ (List.mem_of_getElem? (i := 19) rfl)
theorem qf_RX6_242 : Cond.fieldLink RX6 242 "MeshTurns$Pad" "orders" "I" ∈ wsL_law := zsub_32 _ (List.mem_of_getElem? (i := 20) rfl)
theorem qm_RX6_245 : Cond.methodLink RX6 245 yX6_obey ∈ wsL_law := zsub_32 _ (List.mem_of_getElem? (i := 21) rfl)
theorem qi_X6_obey : Cond.instanceMethod yX6_obey ∈ wsL_law := zsub_32 _ (List.mem_of_getElem? (i := 22) rfl)
theorem qs_X6_obey : Cond.selects RX6 yX6_obey yX6_obey ∈ wsL_law := zsub_32 _ (List.mem_of_getElem? (i := 23) rfl)
theorem qc_X6_obey : Cond.code yX6_obey cX6_obey 4 (some .boolean) ∈ wsL_law := zsub_33 _ (List.mem_of_getElem? (i := 0) rfl)
theorem qf_RX6_271 : Cond.fieldLink RX6 271 "MeshTurns$Pad" "firsts" "[I" ∈ wsL_law := zsub_33 _ (List.mem_of_getElem? (i := 1) rfl)
theorem qf_RX6_274 : Cond.fieldLink RX6 274 "MeshTurns$Pad" "seconds" "[I" ∈ wsL_law := zsub_33 _ (List.mem_of_getElem? (i := 2) rfl)
theorem qf_RX6_277 : Cond.fieldLink RX6 277 "MeshTurns$Pad" "kinds" "[I" ∈ wsL_law := zsub_33 _ (List.mem_of_getElem? (i := 3) rfl)
theorem qm_RL_95 : Cond.methodLink RL 95 yX7_carryOut ∈ wsL_law := zsub_33 _ (List.mem_of_getElem? (i := 4) rfl)
theorem qi_X7_carryOut : Cond.instanceMethod yX7_carryOut ∈ wsL_law := zsub_33 _ (List.mem_of_getElem? (i := 5) rfl)
theorem qs_X7_carryOut : Cond.selects RX7 yX7_carryOut yX7_carryOut ∈ wsL_law := zsub_33 _ (List.mem_of_getElem? (i := 6) rfl)
theorem qc_X7_carryOut : Cond.code yX7_carryOut cX7_carryOut 2 (some .int) ∈ wsL_law := zsub_33 _ (List.mem_of_getElem? (i := 7) rfl)
theorem qm_RX7_199 : Cond.methodLink RX7 199 yX7_carry ∈ wsL_law := zsub_33 _ (List.mem_of_getElem? (i := 8) rfl)
theorem qi_X7_carry : Cond.instanceMethod yX7_carry ∈ wsL_law := zsub_33 _ (List.mem_of_getElem? (i := 9) rfl)
theorem qs_X7_carry : Cond.selects RX7 yX7_carry yX7_carry ∈ wsL_law := zsub_33 _ (List.mem_of_getElem? (i := 10) rfl)
theorem qc_X7_carry : Cond.code yX7_carry cX7_carry 4 (some .int) ∈ wsL_law := zsub_33 _ (List.mem_of_getElem? (i := 11) rfl)
theorem qm_RX7_190 : Cond.methodLink RX7 190 yX7_send ∈ wsL_law := zsub_33 _ (List.mem_of_getElem? (i := 12) rfl)
theorem qm_RX7_193 : Cond.methodLink RX7 193 yX7_link ∈ wsL_law := zsub_33 _ (List.mem_of_getElem? (i := 13) rfl)
theorem qm_RX7_196 : Cond.methodLink RX7 196 yX7_ticks ∈ wsL_law := zsub_33 _ (List.mem_of_getElem? (i := 14) rfl)
theorem qm_RL_96 : Cond.methodLink RL 96 yX6_undo ∈ wsL_law := zsub_33 _ (List.mem_of_getElem? (i := 15) rfl)
theorem qi_X6_undo : Cond.instanceMethod yX6_undo ∈ wsL_law := zsub_33 _ (List.mem_of_getElem? (i := 16) rfl)
theorem qs_X6_undo : Cond.selects RX6 yX6_undo yX6_undo ∈ wsL_law := zsub_33 _ (List.mem_of_getElem? (i := 17) rfl)
theorem qc_X6_undo : Cond.code yX6_undo cX6_undo 1 (some .int) ∈ wsL_law := zsub_33 _ (List.mem_of_getElem? (i := 18) rfl)
theorem qm_RL_99 : Cond.methodLink RL 99 yX7_undo ∈ wsL_law := zsub_33 _ (List.mem_of_getElem? (i := 19) rfl)
theorem qi_X7_undo : Cond.instanceMethod yX7_undo ∈ wsL_law := zsub_33 _ (List.mem_of_getElem? (i := 20) rfl)
theorem qs_X7_undo : Cond.selects RX7 yX7_undo yX7_undo ∈ wsL_law := zsub_33 _ (List.mem_of_getElem? (i := 21) rfl)
theorem qc_X7_undo : Cond.code yX7_undo cX7_undo 2 (some .int) ∈ wsL_law := zsub_33 _ (List.mem_of_getElem? (i := 22) rfl)
theorem qm_RL_100 : Cond.methodLink RL 100 yX6_save ∈ wsL_law := zsub_33 _ (List.mem_of_getElem? (i := 23) rfl)
theorem qi_X6_save : Cond.instanceMethod yX6_save ∈ wsL_law := zsub_34 _ (List.mem_of_getElem? (i := 0) rfl)
theorem qs_X6_save : Cond.selects RX6 yX6_save yX6_save ∈ wsL_law := zsub_34 _ (List.mem_of_getElem? (i := 1) rfl)
theorem qc_X6_save : Cond.code yX6_save cX6_save 2 (some .int) ∈ wsL_law := zsub_34 _ (List.mem_of_getElem? (i := 2) rfl)
theorem qm_RX6_248 : Cond.methodLink RX6 248 yX6_isSlot ∈ wsL_law := zsub_34 _ (List.mem_of_getElem? (i := 3) rfl)
theorem qt_X6_isSlot : Cond.static yX6_isSlot ∈ wsL_law := zsub_34 _ (List.mem_of_getElem? (i := 4) rfl)
theorem qc_X6_isSlot : Cond.code yX6_isSlot cX6_isSlot 1 (some .boolean) ∈ wsL_law := zsub_34 _ (List.mem_of_getElem? (i := 5) rfl)
theorem qm_RL_103 : Cond.methodLink RL 103 yX7_save ∈ wsL_law := zsub_34 _ (List.mem_of_getElem? (i := 6) rfl)
theorem qi_X7_save : Cond.instanceMethod yX7_save ∈ wsL_law := zsub_34 _ (List.mem_of_getElem? (i := 7) rfl)
theorem qs_X7_save : Cond.selects RX7 yX7_save yX7_save ∈ wsL_law := zsub_34 _ (List.mem_of_getElem? (i := 8) rfl)
theorem qc_X7_save : Cond.code yX7_save cX7_save 3 (some .int) ∈ wsL_law := zsub_34 _ (List.mem_of_getElem? (i := 9) rfl)
theorem qm_RL_104 : Cond.methodLink RL 104 yX6_restore ∈ wsL_law := zsub_34 _ (List.mem_of_getElem? (i := 10) rfl)
theorem qi_X6_restore : Cond.instanceMethod yX6_restore ∈ wsL_law := zsub_34 _ (List.mem_of_getElem? (i := 11) rfl)
theorem qs_X6_restore : Cond.selects RX6 yX6_restore yX6_restore ∈ wsL_law := zsub_34 _ (List.mem_of_getElem? (i := 12) rfl)
theorem qc_X6_restore : Cond.code yX6_restore cX6_restore 2 (some .int) ∈ wsL_law := zsub_34 _ (List.mem_of_getElem? (i := 13) rfl)
theorem qm_RL_107 : Cond.methodLink RL 107 yX7_restore ∈ wsL_law := zsub_34 _ (List.mem_of_getElem? (i := 14) rfl)
theorem qi_X7_restore : Cond.instanceMethod yX7_restore ∈ wsL_law := zsub_34 _ (List.mem_of_getElem? (i := 15) rfl)
theorem qs_X7_restore : Cond.selects RX7 yX7_restore yX7_restore ∈ wsL_law := zsub_34 _ (List.mem_of_getElem? (i := 16) rfl)
theorem qc_X7_restore : Cond.code yX7_restore cX7_restore 3 (some .int) ∈ wsL_law := zsub_34 _ (List.mem_of_getElem? (i := 17) rfl)
theorem zgood_1 : wsL_law_r1.all goodWord = true := by decide +kernel
theorem zgood_2 : wsL_law_r2.all goodWord = true := by decide +kernel
theorem zgood_3 : wsL_law_r3.all goodWord = true := by decide +kernel
theorem zgood_4 : wsL_law_r4.all goodWord = true := by decide +kernel
theorem zgood_5 : wsL_law_r5.all goodWord = true := by decide +kernel
theorem zgood_6 : wsL_law_r6.all goodWord = true := by decide +kernel
theorem zgood_7 : wsL_law_r7.all goodWord = true := by decide +kernel
theorem zgood_8 : wsL_law_r8.all goodWord = true := by decide +kernel
theorem zgood_9 : wsL_law_r9.all goodWord = true := by decide +kernel
theorem zgood_10 : wsL_law_r10.all goodWord = true := by decide +kernel
theorem zgood_11 : wsL_law_r11.all goodWord = true := by decide +kernel
theorem zgood_12 : wsL_law_r12.all goodWord = true := by decide +kernel
theorem zgood_13 : wsL_law_r13.all goodWord = true := by decide +kernel
theorem zgood_14 : wsL_law_r14.all goodWord = true := by decide +kernel
theorem zgood_15 : wsL_law_r15.all goodWord = true := by decide +kernel
theorem zgood_16 : wsL_law_r16.all goodWord = true := by decide +kernel
theorem zgood_17 : wsL_law_r17.all goodWord = true := by decide +kernel
theorem zgood_18 : wsL_law_r18.all goodWord = true := by decide +kernel
theorem zgood_19 : wsL_law_r19.all goodWord = true := by decide +kernel
theorem zgood_20 : wsL_law_r20.all goodWord = true := by decide +kernel
theorem zgood_21 : wsL_law_r21.all goodWord = true := by decide +kernel
theorem zgood_22 : wsL_law_r22.all goodWord = true := by decide +kernel
theorem zgood_23 : wsL_law_r23.all goodWord = true := by decide +kernel
theorem zgood_24 : wsL_law_r24.all goodWord = true := by decide +kernel
theorem zgood_25 : wsL_law_r25.all goodWord = true := by decide +kernel
theorem zgood_26 : wsL_law_r26.all goodWord = true := by decide +kernel
theorem zgood_27 : wsL_law_r27.all goodWord = true := by decide +kernel
theorem zgood_28 : wsL_law_r28.all goodWord = true := by decide +kernel
theorem zgood_29 : wsL_law_r29.all goodWord = true := by decide +kernel
theorem zgood_30 : wsL_law_r30.all goodWord = true := by decide +kernel
theorem zgood_31 : wsL_law_r31.all goodWord = true := by decide +kernel
theorem zgood_32 : wsL_law_r32.all goodWord = true := by decide +kernel
theorem zgood_33 : wsL_law_r33.all goodWord = true := by decide +kernel
theorem zgood_34 : wsL_law_r34.all goodWord = true := by decide +kernel
theorem zgood_wsX60 : wsX60.all goodWord = true := by decide +kernel
theorem zgood_wsX70 : wsX70.all goodWord = true := by decide +kernel
theorem zgood_wsX50 : wsX50.all goodWord = true := by decide +kernel
theorem zgood_wsX40 : wsX40.all goodWord = true := by decide +kernel
theorem zgood_wsX10 : wsX10.all goodWord = true := by decide +kernel
theorem zgood_wsX30 : wsX30.all goodWord = true := by decide +kernel
theorem zgood_wsX00 : wsX00.all goodWord = true := by decide +kernel
theorem zgood_wsX20 : wsX20.all goodWord = true := by decide +kernel
theorem zall_app {a b : List Cond} (ha : a.all goodWord = true) (hb : b.all goodWord = true) : (a ++ b).all goodWord = true := by rw [List.all_append, ha, hb]; rfl
theorem zG_good : wsL_law.all goodWord = true := zall_app (b := []) (zall_app (zall_app (zall_app (zall_app (zall_app (zall_app (zall_app (zall_app (zall_app zgood_1 (zall_app zgood_2 (zall_app zgood_3 (zall_app zgood_4 (zall_app zgood_5 (zall_app zgood_6 (zall_app zgood_7 (zall_app zgood_8 (zall_app zgood_9 (zall_app zgood_10 (zall_app zgood_11 (zall_app zgood_12 (zall_app zgood_13 (zall_app zgood_14 (zall_app zgood_15 (zall_app zgood_16 (zall_app zgood_17 (zall_app zgood_18 (zall_app zgood_19 (zall_app zgood_20 (zall_app zgood_21 (zall_app zgood_22 (zall_app zgood_23 (zall_app zgood_24 (zall_app zgood_25 (zall_app zgood_26 (zall_app zgood_27 (zall_app zgood_28 (zall_app zgood_29 (zall_app zgood_30 (zall_app zgood_31 (zall_app zgood_32 (zall_app zgood_33 (zgood_34)))))))))))))))))))))))))))))))))) zgood_wsX60) zgood_wsX70) zgood_wsX50) zgood_wsX40) zgood_wsX10) zgood_wsX30) zgood_wsX00) zgood_wsX20) rfl
