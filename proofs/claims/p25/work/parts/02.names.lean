/-! ===== BEGIN words of one list among another's, by their places ===== -/
theorem goodIn_r {big : List Cond} (ws : List Cond) (ps : List Nat) (hp : ws = ps.filterMap (fun i => big[i]?)) (h : ws.all goodWord = true) : GoodIn big ws := by
  intro w hw
  have h1 := List.all_eq_true.mp h w hw
  rw [hp] at hw
  obtain ⟨i, -, hi⟩ := List.mem_filterMap.mp hw
  have hm : w ∈ big := by first | exact List.mem_of_getElem? hi | exact List.getElem?_mem hi
  exact ⟨hm, good_of_word h1⟩
theorem goodIn_app {big a b : List Cond} (ha : GoodIn big a) (hb : GoodIn big b) : GoodIn big (a ++ b) := fun w h => (List.mem_append.mp h).elim (ha w) (hb w)
theorem goodIn_ca {big a b : List Cond} {c : Cond} (ha : GoodIn big (c :: a)) (hb : GoodIn big b) : GoodIn big (c :: (a ++ b)) := fun w h => (List.mem_cons.mp h).elim (fun e => ha w (List.mem_cons.mpr (Or.inl e))) (fun h => (List.mem_append.mp h).elim (fun h => ha w (List.mem_cons.mpr (Or.inr h))) (hb w))
theorem goodIn_sub {big ws : List Cond} (hm : ∀ w ∈ ws, w ∈ big) (h : ws.all goodWord = true) : GoodIn big ws := fun w hw => ⟨hm w hw, good_of_word (List.all_eq_true.mp h w hw)⟩
/-! ===== END ===== -/
/-! ===== BEGIN printed: names, fields, word lists, decode rows ===== -/
def RX0 : String := "MeshTurns$Grid"
def TX0 : u_T := fun k => match k with
  | 0 => ("MeshTurns$Grid", "columns", "I", false)
  | 1 => ("MeshTurns$Grid", "rows", "I", false)
  | _ => ("MeshTurns$Grid", "broken", "J", false)
def tyX0 : Nat → FieldType := fun k => match k with
  | 0 => .int
  | 1 => .int
  | _ => .long
abbrev wsX00 : List Cond := u_ws RX0 TX0 3
theorem nmX0 : ∀ a, a < 3 → ∀ b, b < 3 → a ≠ b → (TX0 a).2.1 ≠ (TX0 b).2.1 := by decide +kernel
theorem tyX0_ok : ∀ k, k < 3 → parseFieldDescriptor (TX0 k).2.2.1 = some (tyX0 k) := by decide +kernel
abbrev cX0_init : ByteArray := prog_2_method_1_code
def yX0_init : MethodName := ⟨RX0, "<init>", "()V"⟩
abbrev cX0_layOut : ByteArray := prog_2_method_2_code
def yX0_layOut : MethodName := ⟨RX0, "layOut", "(II)V"⟩
abbrev cX0_copyGrid : ByteArray := prog_2_method_3_code
def yX0_copyGrid : MethodName := ⟨RX0, "copyGrid", "(LMeshTurns$Grid;)V"⟩
abbrev cX0_boxes : ByteArray := prog_2_method_4_code
def yX0_boxes : MethodName := ⟨RX0, "boxes", "()I"⟩
abbrev cX0_has : ByteArray := prog_2_method_5_code
def yX0_has : MethodName := ⟨RX0, "has", "(I)Z"⟩
abbrev cX0_beside : ByteArray := prog_2_method_6_code
def yX0_beside : MethodName := ⟨RX0, "beside", "(II)I"⟩
abbrev cX0_distance : ByteArray := prog_2_method_7_code
def yX0_distance : MethodName := ⟨RX0, "distance", "(II)I"⟩
abbrev cX0_linkAt : ByteArray := prog_2_method_8_code
def yX0_linkAt : MethodName := ⟨RX0, "linkAt", "(II)I"⟩
abbrev cX0_isWhole : ByteArray := prog_2_method_12_code
def yX0_isWhole : MethodName := ⟨RX0, "isWhole", "(I)Z"⟩
abbrev cX0_makeWhole : ByteArray := prog_2_method_13_code
def yX0_makeWhole : MethodName := ⟨RX0, "makeWhole", "(IZ)V"⟩
abbrev cX0_brokenLinks : ByteArray := prog_2_method_14_code
def yX0_brokenLinks : MethodName := ⟨RX0, "brokenLinks", "()I"⟩
def RX1 : String := "MeshTurns$Jam"
def TX1 : u_T := fun k => match k with
  | _ => ("MeshTurns$Jam", "stuck", "[Z", true)
def tyX1 : Nat → FieldType := fun k => match k with
  | _ => .array .boolean
abbrev wsX10 : List Cond := u_ws RX1 TX1 1
theorem nmX1 : ∀ a, a < 1 → ∀ b, b < 1 → a ≠ b → (TX1 a).2.1 ≠ (TX1 b).2.1 := by decide +kernel
theorem tyX1_ok : ∀ k, k < 1 → parseFieldDescriptor (TX1 k).2.2.1 = some (tyX1 k) := by decide +kernel
abbrev cX1_init : ByteArray := prog_3_method_1_code
def yX1_init : MethodName := ⟨RX1, "<init>", "()V"⟩
abbrev cX1_holds : ByteArray := prog_3_method_2_code
def yX1_holds : MethodName := ⟨RX1, "holds", "(LMeshTurns$State;LMeshTurns$Routes;I)Z"⟩
abbrev cX1_size : ByteArray := prog_3_method_3_code
def yX1_size : MethodName := ⟨RX1, "size", "(LMeshTurns$State;LMeshTurns$Routes;)I"⟩
abbrev cX1_find : ByteArray := prog_3_method_4_code
def yX1_find : MethodName := ⟨RX1, "find", "(LMeshTurns$State;LMeshTurns$Routes;)V"⟩
abbrev cX1_canGoOn : ByteArray := prog_3_method_5_code
def yX1_canGoOn : MethodName := ⟨RX1, "canGoOn", "(LMeshTurns$State;LMeshTurns$Routes;I)Z"⟩
abbrev cX1_hasFreePacket : ByteArray := prog_3_method_6_code
def yX1_hasFreePacket : MethodName := ⟨RX1, "hasFreePacket", "(LMeshTurns$Packets;I)Z"⟩
def RX2 : String := "MeshTurns$Packets"
def TX2 : u_T := fun k => match k with
  | 0 => ("MeshTurns$Packets", "sent", "I", false)
  | 1 => ("MeshTurns$Packets", "from", "[I", true)
  | 2 => ("MeshTurns$Packets", "to", "[I", true)
  | 3 => ("MeshTurns$Packets", "place", "[I", true)
  | 4 => ("MeshTurns$Packets", "box", "[I", true)
  | 5 => ("MeshTurns$Packets", "moves", "[I", true)
  | 6 => ("MeshTurns$Packets", "detours", "[I", true)
  | 7 => ("MeshTurns$Packets", "waits", "[I", true)
  | 8 => ("MeshTurns$Packets", "sentIn", "[I", true)
  | 9 => ("MeshTurns$Packets", "arrivedIn", "[I", true)
  | _ => ("MeshTurns$Packets", "turned", "[I", true)
def tyX2 : Nat → FieldType := fun k => match k with
  | 0 => .int
  | 1 => .array .int
  | 2 => .array .int
  | 3 => .array .int
  | 4 => .array .int
  | 5 => .array .int
  | 6 => .array .int
  | 7 => .array .int
  | 8 => .array .int
  | 9 => .array .int
  | _ => .array .int
abbrev wsX20 : List Cond := u_ws RX2 TX2 11
theorem nmX2 : ∀ a, a < 11 → ∀ b, b < 11 → a ≠ b → (TX2 a).2.1 ≠ (TX2 b).2.1 := by decide +kernel
theorem tyX2_ok : ∀ k, k < 11 → parseFieldDescriptor (TX2 k).2.2.1 = some (tyX2 k) := by decide +kernel
abbrev cX2_init : ByteArray := prog_4_method_1_code
def yX2_init : MethodName := ⟨RX2, "<init>", "()V"⟩
abbrev cX2_copyPackets : ByteArray := prog_4_method_2_code
def yX2_copyPackets : MethodName := ⟨RX2, "copyPackets", "(LMeshTurns$Packets;)V"⟩
abbrev cX2_has : ByteArray := prog_4_method_3_code
def yX2_has : MethodName := ⟨RX2, "has", "(I)Z"⟩
abbrev cX2_add : ByteArray := prog_4_method_4_code
def yX2_add : MethodName := ⟨RX2, "add", "(III)I"⟩
abbrev cX2_noteMove : ByteArray := prog_4_method_5_code
def yX2_noteMove : MethodName := ⟨RX2, "noteMove", "(IIIZ)V"⟩
abbrev cX2_countIn : ByteArray := prog_4_method_6_code
def yX2_countIn : MethodName := ⟨RX2, "countIn", "(I)I"⟩
abbrev cX2_countAt : ByteArray := prog_4_method_7_code
def yX2_countAt : MethodName := ⟨RX2, "countAt", "(II)I"⟩
abbrev cX2_sum : ByteArray := prog_4_method_8_code
def yX2_sum : MethodName := ⟨RX2, "sum", "([I)I"⟩
def RX3 : String := "MeshTurns$Pad"
def TX3 : u_T := fun k => match k with
  | 0 => ("MeshTurns$Pad", "signs", "[C", true)
  | 1 => ("MeshTurns$Pad", "length", "I", false)
  | 2 => ("MeshTurns$Pad", "orders", "I", false)
  | 3 => ("MeshTurns$Pad", "kinds", "[I", true)
  | 4 => ("MeshTurns$Pad", "firsts", "[I", true)
  | 5 => ("MeshTurns$Pad", "seconds", "[I", true)
  | _ => ("MeshTurns$Pad", "place", "I", false)
def tyX3 : Nat → FieldType := fun k => match k with
  | 0 => .array .char
  | 1 => .int
  | 2 => .int
  | 3 => .array .int
  | 4 => .array .int
  | 5 => .array .int
  | _ => .int
abbrev wsX30 : List Cond := u_ws RX3 TX3 7
theorem nmX3 : ∀ a, a < 7 → ∀ b, b < 7 → a ≠ b → (TX3 a).2.1 ≠ (TX3 b).2.1 := by decide +kernel
theorem tyX3_ok : ∀ k, k < 7 → parseFieldDescriptor (TX3 k).2.2.1 = some (tyX3 k) := by decide +kernel
abbrev cX3_init : ByteArray := prog_5_method_1_code
def yX3_init : MethodName := ⟨RX3, "<init>", "()V"⟩
def RX4 : String := "MeshTurns$Routes"
def TX4 : u_T := fun k => match k with
  | 0 => ("MeshTurns$Routes", "eastIsFirst", "Z", false)
  | 1 => ("MeshTurns$Routes", "open", "[I", true)
  | 2 => ("MeshTurns$Routes", "lengths", "[I", true)
  | 3 => ("MeshTurns$Routes", "numbers", "[I", true)
  | 4 => ("MeshTurns$Routes", "queue", "[I", true)
  | _ => ("MeshTurns$Routes", "queued", "I", false)
def tyX4 : Nat → FieldType := fun k => match k with
  | 0 => .boolean
  | 1 => .array .int
  | 2 => .array .int
  | 3 => .array .int
  | 4 => .array .int
  | _ => .int
abbrev wsX40 : List Cond := u_ws RX4 TX4 6
theorem nmX4 : ∀ a, a < 6 → ∀ b, b < 6 → a ≠ b → (TX4 a).2.1 ≠ (TX4 b).2.1 := by decide +kernel
theorem tyX4_ok : ∀ k, k < 6 → parseFieldDescriptor (TX4 k).2.2.1 = some (tyX4 k) := by decide +kernel
abbrev cX4_init : ByteArray := prog_6_method_1_code
def yX4_init : MethodName := ⟨RX4, "<init>", "()V"⟩
abbrev cX4_learn : ByteArray := prog_6_method_2_code
def yX4_learn : MethodName := ⟨RX4, "learn", "(LMeshTurns$Grid;I)V"⟩
abbrev cX4_boxBehind : ByteArray := prog_6_method_3_code
def yX4_boxBehind : MethodName := ⟨RX4, "boxBehind", "(II)I"⟩
abbrev cX4_length : ByteArray := prog_6_method_4_code
def yX4_length : MethodName := ⟨RX4, "length", "(III)I"⟩
abbrev cX4_lengthAfter : ByteArray := prog_6_method_5_code
def yX4_lengthAfter : MethodName := ⟨RX4, "lengthAfter", "(IIII)I"⟩
abbrev cX4_shortestWays : ByteArray := prog_6_method_6_code
def yX4_shortestWays : MethodName := ⟨RX4, "shortestWays", "(II)I"⟩
abbrev cX4_spot : ByteArray := prog_6_method_7_code
def yX4_spot : MethodName := ⟨RX4, "spot", "(II)I"⟩
abbrev cX4_mayMove : ByteArray := prog_6_method_8_code
def yX4_mayMove : MethodName := ⟨RX4, "mayMove", "(II)Z"⟩
abbrev cX4_search : ByteArray := prog_6_method_9_code
def yX4_search : MethodName := ⟨RX4, "search", "(I)V"⟩
abbrev cX4_stepBack : ByteArray := prog_6_method_10_code
def yX4_stepBack : MethodName := ⟨RX4, "stepBack", "(III)V"⟩
abbrev cX4_opposite : ByteArray := prog_6_method_11_code
def yX4_opposite : MethodName := ⟨RX4, "opposite", "(I)I"⟩
abbrev cX4_reach : ByteArray := prog_6_method_12_code
def yX4_reach : MethodName := ⟨RX4, "reach", "(IIII)V"⟩
def RX5 : String := "MeshTurns$State"
def TX5 : u_T := fun k => match k with
  | 0 => ("MeshTurns$State", "settings", "[I", true)
  | 1 => ("MeshTurns$State", "grid", "LMeshTurns$Grid;", true)
  | 2 => ("MeshTurns$State", "packets", "LMeshTurns$Packets;", true)
  | 3 => ("MeshTurns$State", "inside", "[I", true)
  | 4 => ("MeshTurns$State", "movesFrom", "[I", true)
  | _ => ("MeshTurns$State", "tick", "I", false)
def tyX5 : Nat → FieldType := fun k => match k with
  | 0 => .array .int
  | 1 => .object "MeshTurns$Grid"
  | 2 => .object "MeshTurns$Packets"
  | 3 => .array .int
  | 4 => .array .int
  | _ => .int
abbrev wsX50 : List Cond := u_ws RX5 TX5 6
theorem nmX5 : ∀ a, a < 6 → ∀ b, b < 6 → a ≠ b → (TX5 a).2.1 ≠ (TX5 b).2.1 := by decide +kernel
theorem tyX5_ok : ∀ k, k < 6 → parseFieldDescriptor (TX5 k).2.2.1 = some (tyX5 k) := by decide +kernel
abbrev cX5_init : ByteArray := prog_7_method_1_code
def yX5_init : MethodName := ⟨RX5, "<init>", "()V"⟩
abbrev cX5_copyState : ByteArray := prog_7_method_2_code
def yX5_copyState : MethodName := ⟨RX5, "copyState", "(LMeshTurns$State;LMeshTurns$State;)V"⟩
abbrev cX5_hasRoom : ByteArray := prog_7_method_3_code
def yX5_hasRoom : MethodName := ⟨RX5, "hasRoom", "(I)Z"⟩
abbrev cX5_wayLength : ByteArray := prog_7_method_4_code
def yX5_wayLength : MethodName := ⟨RX5, "wayLength", "(LMeshTurns$Routes;II)I"⟩
abbrev cX5_wayLengthOf : ByteArray := prog_7_method_5_code
def yX5_wayLengthOf : MethodName := ⟨RX5, "wayLengthOf", "(LMeshTurns$Routes;I)I"⟩
abbrev cX5_mostMoves : ByteArray := prog_7_method_6_code
def yX5_mostMoves : MethodName := ⟨RX5, "mostMoves", "(I)I"⟩
abbrev cX5_isPossible : ByteArray := prog_7_method_7_code
def yX5_isPossible : MethodName := ⟨RX5, "isPossible", "(LMeshTurns$Routes;II)Z"⟩
abbrev cX5_firstSide : ByteArray := prog_7_method_8_code
def yX5_firstSide : MethodName := ⟨RX5, "firstSide", "(LMeshTurns$Routes;IZ)I"⟩
abbrev cX5_letsIn : ByteArray := prog_7_method_9_code
def yX5_letsIn : MethodName := ⟨RX5, "letsIn", "(II)Z"⟩
abbrev cX5_connectedPairs : ByteArray := prog_7_method_10_code
def yX5_connectedPairs : MethodName := ⟨RX5, "connectedPairs", "(LMeshTurns$Routes;)I"⟩
abbrev cX5_passTicks : ByteArray := prog_7_method_11_code
def yX5_passTicks : MethodName := ⟨RX5, "passTicks", "(LMeshTurns$Routes;I)V"⟩
abbrev cX5_comesInside : ByteArray := prog_7_method_12_code
def yX5_comesInside : MethodName := ⟨RX5, "comesInside", "(I)Z"⟩
abbrev cX5_movesOn : ByteArray := prog_7_method_13_code
def yX5_movesOn : MethodName := ⟨RX5, "movesOn", "(LMeshTurns$Routes;I)Z"⟩
def RX6 : String := "MeshTurns"
def TX6 : u_T := fun k => match k with
  | 0 => ("MeshTurns", "now", "LMeshTurns$State;", true)
  | 1 => ("MeshTurns", "routes", "LMeshTurns$Routes;", true)
  | 2 => ("MeshTurns", "trial", "LMeshTurns$State;", true)
  | 3 => ("MeshTurns", "trialRoutes", "LMeshTurns$Routes;", true)
  | 4 => ("MeshTurns", "jam", "LMeshTurns$Jam;", true)
  | 5 => ("MeshTurns", "pad", "LMeshTurns$Pad;", true)
  | 6 => ("MeshTurns", "history", "[LMeshTurns$State;", true)
  | 7 => ("MeshTurns", "undoable", "I", false)
  | 8 => ("MeshTurns", "slots", "[LMeshTurns$State;", true)
  | _ => ("MeshTurns", "slotIsUsed", "[Z", true)
def tyX6 : Nat → FieldType := fun k => match k with
  | 0 => .object "MeshTurns$State"
  | 1 => .object "MeshTurns$Routes"
  | 2 => .object "MeshTurns$State"
  | 3 => .object "MeshTurns$Routes"
  | 4 => .object "MeshTurns$Jam"
  | 5 => .object "MeshTurns$Pad"
  | 6 => .array (.object "MeshTurns$State")
  | 7 => .int
  | 8 => .array (.object "MeshTurns$State")
  | _ => .array .boolean
abbrev wsX60 : List Cond := u_ws RX6 TX6 10
theorem nmX6 : ∀ a, a < 10 → ∀ b, b < 10 → a ≠ b → (TX6 a).2.1 ≠ (TX6 b).2.1 := by decide +kernel
theorem tyX6_ok : ∀ k, k < 10 → parseFieldDescriptor (TX6 k).2.2.1 = some (tyX6 k) := by decide +kernel
abbrev cX6_init : ByteArray := prog_1_method_1_code
def yX6_init : MethodName := ⟨RX6, "<init>", "()V"⟩
abbrev cX6_set : ByteArray := prog_1_method_2_code
def yX6_set : MethodName := ⟨RX6, "set", "(II)I"⟩
abbrev cX6_mesh : ByteArray := prog_1_method_3_code
def yX6_mesh : MethodName := ⟨RX6, "mesh", "(II)I"⟩
abbrev cX6_link : ByteArray := prog_1_method_4_code
def yX6_link : MethodName := ⟨RX6, "link", "(III)I"⟩
abbrev cX6_send : ByteArray := prog_1_method_5_code
def yX6_send : MethodName := ⟨RX6, "send", "(II)I"⟩
abbrev cX6_ticks : ByteArray := prog_1_method_6_code
def yX6_ticks : MethodName := ⟨RX6, "ticks", "(I)I"⟩
abbrev cX6_ofPacket : ByteArray := prog_1_method_7_code
def yX6_ofPacket : MethodName := ⟨RX6, "ofPacket", "(II)I"⟩
abbrev cX6_ofBox : ByteArray := prog_1_method_8_code
def yX6_ofBox : MethodName := ⟨RX6, "ofBox", "(II)I"⟩
abbrev cX6_count : ByteArray := prog_1_method_9_code
def yX6_count : MethodName := ⟨RX6, "count", "(I)I"⟩
abbrev cX6_leastWay : ByteArray := prog_1_method_10_code
def yX6_leastWay : MethodName := ⟨RX6, "leastWay", "(II)I"⟩
abbrev cX6_ways : ByteArray := prog_1_method_11_code
def yX6_ways : MethodName := ⟨RX6, "ways", "(II)I"⟩
abbrev cX6_pairs : ByteArray := prog_1_method_12_code
def yX6_pairs : MethodName := ⟨RX6, "pairs", "()I"⟩
abbrev cX6_arrivesIn : ByteArray := prog_1_method_15_code
def yX6_arrivesIn : MethodName := ⟨RX6, "arrivesIn", "(I)I"⟩
abbrev cX6_leastOfSetting : ByteArray := prog_1_method_24_code
def yX6_leastOfSetting : MethodName := ⟨RX6, "leastOfSetting", "(I)I"⟩
abbrev cX6_mostOfSetting : ByteArray := prog_1_method_25_code
def yX6_mostOfSetting : MethodName := ⟨RX6, "mostOfSetting", "(I)I"⟩
abbrev cX6_isLine : ByteArray := prog_1_method_26_code
def yX6_isLine : MethodName := ⟨RX6, "isLine", "(I)Z"⟩
abbrev cX6_isSide : ByteArray := prog_1_method_27_code
def yX6_isSide : MethodName := ⟨RX6, "isSide", "(I)Z"⟩
abbrev cX6_isTicks : ByteArray := prog_1_method_28_code
def yX6_isTicks : MethodName := ⟨RX6, "isTicks", "(I)Z"⟩
abbrev cX6_linkError : ByteArray := prog_1_method_30_code
def yX6_linkError : MethodName := ⟨RX6, "linkError", "(III)I"⟩
abbrev cX6_sendError : ByteArray := prog_1_method_31_code
def yX6_sendError : MethodName := ⟨RX6, "sendError", "(II)I"⟩
abbrev cX6_learnRoutes : ByteArray := prog_1_method_32_code
def yX6_learnRoutes : MethodName := ⟨RX6, "learnRoutes", "()V"⟩
abbrev cX6_changeLink : ByteArray := prog_1_method_33_code
def yX6_changeLink : MethodName := ⟨RX6, "changeLink", "(III)I"⟩
abbrev cX6_recordState : ByteArray := prog_1_method_35_code
def yX6_recordState : MethodName := ⟨RX6, "recordState", "()V"⟩
abbrev cX6_dropOldestState : ByteArray := prog_1_method_36_code
def yX6_dropOldestState : MethodName := ⟨RX6, "dropOldestState", "()V"⟩
abbrev cX6_linkState : ByteArray := prog_1_method_37_code
def yX6_linkState : MethodName := ⟨RX6, "linkState", "(II)I"⟩
def RX7 : String := "MeshTurnsModel"
def TX7 : u_T := fun k => match k with
  | _ => ("", "", "", false)
def tyX7 : Nat → FieldType := fun k => match k with
  | _ => .int
abbrev wsX70 : List Cond := u_ws RX7 TX7 0
theorem nmX7 : ∀ a, a < 0 → ∀ b, b < 0 → a ≠ b → (TX7 a).2.1 ≠ (TX7 b).2.1 := by decide +kernel
theorem tyX7_ok : ∀ k, k < 0 → parseFieldDescriptor (TX7 k).2.2.1 = some (tyX7 k) := by decide +kernel
def RJ13 : String := "java/lang/Long"
def TJ13 : u_T := fun k => match k with
  | _ => ("", "", "", false)
def tyJ13 : Nat → FieldType := fun k => match k with
  | _ => .int
abbrev wsJ130 : List Cond := u_ws RJ13 TJ13 0
theorem nmJ13 : ∀ a, a < 0 → ∀ b, b < 0 → a ≠ b → (TJ13 a).2.1 ≠ (TJ13 b).2.1 := by decide +kernel
theorem tyJ13_ok : ∀ k, k < 0 → parseFieldDescriptor (TJ13 k).2.2.1 = some (tyJ13 k) := by decide +kernel
abbrev cJ13_bitCount_95d88 : ByteArray := prog_10_method_50_code
def yJ13_bitCount_95d88 : MethodName := ⟨RJ13, "bitCount", "(J)I"⟩
def RJ9 : String := "java/lang/Math"
def TJ9 : u_T := fun k => match k with
  | _ => ("", "", "", false)
def tyJ9 : Nat → FieldType := fun k => match k with
  | _ => .int
abbrev wsJ90 : List Cond := u_ws RJ9 TJ9 0
theorem nmJ9 : ∀ a, a < 0 → ∀ b, b < 0 → a ≠ b → (TJ9 a).2.1 ≠ (TJ9 b).2.1 := by decide +kernel
theorem tyJ9_ok : ∀ k, k < 0 → parseFieldDescriptor (TJ9 k).2.2.1 = some (tyJ9 k) := by decide +kernel
abbrev cJ9_abs_0f7a4 : ByteArray := prog_11_method_59_code
def yJ9_abs_0f7a4 : MethodName := ⟨RJ9, "abs", "(I)I"⟩
abbrev cJ9_max_7cf53 : ByteArray := prog_11_method_65_code
def yJ9_max_7cf53 : MethodName := ⟨RJ9, "max", "(II)I"⟩
abbrev cJ9_min_7cf53 : ByteArray := prog_11_method_69_code
def yJ9_min_7cf53 : MethodName := ⟨RJ9, "min", "(II)I"⟩
def RJ10 : String := "java/lang/System"
def TJ10 : u_T := fun k => match k with
  | _ => ("", "", "", false)
def tyJ10 : Nat → FieldType := fun k => match k with
  | _ => .int
abbrev wsJ100 : List Cond := u_ws RJ10 TJ10 0
theorem nmJ10 : ∀ a, a < 0 → ∀ b, b < 0 → a ≠ b → (TJ10 a).2.1 ≠ (TJ10 b).2.1 := by decide +kernel
theorem tyJ10_ok : ∀ k, k < 0 → parseFieldDescriptor (TJ10 k).2.2.1 = some (tyJ10 k) := by decide +kernel
def RL : String := "MeshTurnsLaw"
abbrev cL_cell : ByteArray := method_2_code
def yL_cell : MethodName := ⟨RL, "cell", "([III)I"⟩
abbrev cL_beside : ByteArray := method_3_code
def yL_beside : MethodName := ⟨RL, "beside", "(LMeshTurns;II)I"⟩
abbrev cL_apart : ByteArray := method_4_code
def yL_apart : MethodName := ⟨RL, "apart", "(LMeshTurns;II)I"⟩
abbrev cL_agree : ByteArray := method_5_code
def yL_agree : MethodName := ⟨RL, "agree", "(LMeshTurns;)Z"⟩
abbrev cL_isTick : ByteArray := method_6_code
def yL_isTick : MethodName := ⟨RL, "isTick", "(LMeshTurns;)Z"⟩
abbrev cL_isAlone : ByteArray := method_7_code
def yL_isAlone : MethodName := ⟨RL, "isAlone", "(LMeshTurns;II)Z"⟩
abbrev cL_isSent : ByteArray := method_8_code
def yL_isSent : MethodName := ⟨RL, "isSent", "(LMeshTurns;II)Z"⟩
abbrev cL_isLink : ByteArray := method_9_code
def yL_isLink : MethodName := ⟨RL, "isLink", "(LMeshTurns;III)Z"⟩
abbrev cL_isAct : ByteArray := method_10_code
def yL_isAct : MethodName := ⟨RL, "isAct", "(LMeshTurns;[II)Z"⟩
abbrev cL_law : ByteArray := code
def yL_law : MethodName := ⟨RL, "law", "([I)Z"⟩
abbrev vwCl : List vw_C := [(RX0, TX0, 3), (RX1, TX1, 1), (RX2, TX2, 11), (RX3, TX3, 7), (RX4, TX4, 6), (RX5, TX5, 6), (RX6, TX6, 10)]
def wsL_law_r1 : List Cond := [Cond.classLink RL 9 RX6, Cond.instantiable RX6 10, Cond.initialized RX6, Cond.methodLink RL 33 yX6_init, Cond.instanceMethod yX6_init, Cond.code yX6_init cX6_init 2 none, Cond.methodLink RX6 3 objectInit, Cond.instanceMethod objectInit, Cond.code objectInit ⟨#[0xb1]⟩ 1 none, Cond.classLink RX6 9 RX5, Cond.instantiable RX5 6, Cond.initialized RX5, Cond.fieldLink RX6 12 "MeshTurns" "now" "LMeshTurns$State;", Cond.classLink RX6 16 RX4, Cond.instantiable RX4 6, Cond.initialized RX4, Cond.fieldLink RX6 19 "MeshTurns" "routes" "LMeshTurns$Routes;", Cond.fieldLink RX6 23 "MeshTurns" "trial" "LMeshTurns$State;", Cond.fieldLink RX6 26 "MeshTurns" "trialRoutes" "LMeshTurns$Routes;", Cond.classLink RX6 29 RX1, Cond.instantiable RX1 1, Cond.initialized RX1, Cond.fieldLink RX6 32 "MeshTurns" "jam" "LMeshTurns$Jam;", Cond.classLink RX6 36 RX3]
def wsL_law_r2 : List Cond := [Cond.instantiable RX3 7, Cond.initialized RX3, Cond.fieldLink RX6 39 "MeshTurns" "pad" "LMeshTurns$Pad;", Cond.fieldLink RX6 43 "MeshTurns" "history" "[LMeshTurns$State;", Cond.fieldLink RX6 47 "MeshTurns" "undoable" "I", Cond.fieldLink RX6 51 "MeshTurns" "slots" "[LMeshTurns$State;", Cond.arrayClass .boolean, Cond.fieldLink RX6 54 "MeshTurns" "slotIsUsed" "[Z", Cond.instanceMethod yX5_init, Cond.code yX5_init cX5_init 1 none, Cond.methodLink RX5 3 objectInit, Cond.arrayClass .int, Cond.fieldLink RX5 9 "MeshTurns$State" "settings" "[I", Cond.classLink RX5 15 RX0, Cond.instantiable RX0 3, Cond.initialized RX0, Cond.fieldLink RX5 18 "MeshTurns$State" "grid" "LMeshTurns$Grid;", Cond.classLink RX5 22 RX2, Cond.instantiable RX2 11, Cond.initialized RX2, Cond.fieldLink RX5 25 "MeshTurns$State" "packets" "LMeshTurns$Packets;", Cond.fieldLink RX5 29 "MeshTurns$State" "inside" "[I", Cond.fieldLink RX5 32 "MeshTurns$State" "movesFrom" "[I", Cond.fieldLink RX5 35 "MeshTurns$State" "tick" "I"]
def wsL_law_r3 : List Cond := [Cond.instanceMethod yX0_init, Cond.code yX0_init cX0_init 1 none, Cond.methodLink RX0 3 objectInit, Cond.fieldLink RX0 9 "MeshTurns$Grid" "columns" "I", Cond.fieldLink RX0 15 "MeshTurns$Grid" "rows" "I", Cond.fieldLink RX0 18 "MeshTurns$Grid" "broken" "J", Cond.instanceMethod yX2_init, Cond.code yX2_init cX2_init 1 none, Cond.methodLink RX2 3 objectInit, Cond.fieldLink RX2 9 "MeshTurns$Packets" "sent" "I", Cond.fieldLink RX2 15 "MeshTurns$Packets" "from" "[I", Cond.fieldLink RX2 19 "MeshTurns$Packets" "to" "[I", Cond.fieldLink RX2 22 "MeshTurns$Packets" "place" "[I", Cond.fieldLink RX2 25 "MeshTurns$Packets" "box" "[I", Cond.fieldLink RX2 28 "MeshTurns$Packets" "moves" "[I", Cond.fieldLink RX2 31 "MeshTurns$Packets" "detours" "[I", Cond.fieldLink RX2 34 "MeshTurns$Packets" "waits" "[I", Cond.fieldLink RX2 37 "MeshTurns$Packets" "sentIn" "[I", Cond.fieldLink RX2 40 "MeshTurns$Packets" "arrivedIn" "[I", Cond.fieldLink RX2 43 "MeshTurns$Packets" "turned" "[I", Cond.instanceMethod yX4_init, Cond.code yX4_init cX4_init 1 none, Cond.methodLink RX4 3 objectInit, Cond.fieldLink RX4 9 "MeshTurns$Routes" "eastIsFirst" "Z"]
def wsL_law_r4 : List Cond := [Cond.fieldLink RX4 15 "MeshTurns$Routes" "open" "[I", Cond.fieldLink RX4 19 "MeshTurns$Routes" "lengths" "[I", Cond.fieldLink RX4 22 "MeshTurns$Routes" "numbers" "[I", Cond.fieldLink RX4 25 "MeshTurns$Routes" "queue" "[I", Cond.fieldLink RX4 28 "MeshTurns$Routes" "queued" "I", Cond.instanceMethod yX1_init, Cond.code yX1_init cX1_init 1 none, Cond.methodLink RX1 3 objectInit, Cond.fieldLink RX1 9 "MeshTurns$Jam" "stuck" "[Z", Cond.instanceMethod yX3_init, Cond.code yX3_init cX3_init 1 none, Cond.methodLink RX3 5 objectInit, Cond.arrayClass .char, Cond.fieldLink RX3 11 "MeshTurns$Pad" "signs" "[C", Cond.fieldLink RX3 15 "MeshTurns$Pad" "length" "I", Cond.fieldLink RX3 19 "MeshTurns$Pad" "orders" "I", Cond.fieldLink RX3 22 "MeshTurns$Pad" "kinds" "[I", Cond.fieldLink RX3 26 "MeshTurns$Pad" "firsts" "[I", Cond.fieldLink RX3 29 "MeshTurns$Pad" "seconds" "[I", Cond.fieldLink RX3 32 "MeshTurns$Pad" "place" "I", Cond.methodLink RX6 58 yX6_learnRoutes, Cond.instanceMethod yX6_learnRoutes, Cond.selects RX6 yX6_learnRoutes yX6_learnRoutes, Cond.code yX6_learnRoutes cX6_learnRoutes 1 none]
def wsL_law_r5 : List Cond := [Cond.fieldLink RX6 88 "MeshTurns$State" "grid" "LMeshTurns$Grid;", Cond.fieldLink RX6 71 "MeshTurns$State" "settings" "[I", Cond.methodLink RX6 257 yX4_learn, Cond.instanceMethod yX4_learn, Cond.selects RX4 yX4_learn yX4_learn, Cond.code yX4_learn cX4_learn 8 none, Cond.methodLink RX4 32 yX0_boxes, Cond.instanceMethod yX0_boxes, Cond.selects RX0 yX0_boxes yX0_boxes, Cond.code yX0_boxes cX0_boxes 1 (some .int), Cond.methodLink RX4 38 yX0_linkAt, Cond.instanceMethod yX0_linkAt, Cond.selects RX0 yX0_linkAt yX0_linkAt, Cond.code yX0_linkAt cX0_linkAt 4 (some .int), Cond.methodLink RX0 32 Lib.Math.min.name, Cond.static Lib.Math.min.name, Cond.initialized "java/lang/Math", Cond.code Lib.Math.min.name Lib.Math.min.code 2 (some .int), Cond.methodLink RX0 28 yX0_beside, Cond.instanceMethod yX0_beside, Cond.selects RX0 yX0_beside yX0_beside, Cond.code yX0_beside cX0_beside 5 (some .int), Cond.methodLink RX4 42 yX0_isWhole, Cond.instanceMethod yX0_isWhole]
def wsL_law_r6 : List Cond := [Cond.selects RX0 yX0_isWhole yX0_isWhole, Cond.code yX0_isWhole cX0_isWhole 2 (some .boolean), Cond.methodLink RX4 46 yX0_beside, Cond.methodLink RX4 49 yX4_search, Cond.instanceMethod yX4_search, Cond.selects RX4 yX4_search yX4_search, Cond.code yX4_search cX4_search 3 none, Cond.methodLink RX4 53 yX4_spot, Cond.static yX4_spot, Cond.code yX4_spot cX4_spot 2 (some .int), Cond.methodLink RX4 67 yX4_reach, Cond.instanceMethod yX4_reach, Cond.selects RX4 yX4_reach yX4_reach, Cond.code yX4_reach cX4_reach 6 none, Cond.methodLink RX4 71 yX4_stepBack, Cond.instanceMethod yX4_stepBack, Cond.selects RX4 yX4_stepBack yX4_stepBack, Cond.code yX4_stepBack cX4_stepBack 9 none, Cond.methodLink RX4 56 yX4_boxBehind, Cond.instanceMethod yX4_boxBehind, Cond.selects RX4 yX4_boxBehind yX4_boxBehind, Cond.code yX4_boxBehind cX4_boxBehind 4 (some .int), Cond.methodLink RX4 59 yX4_mayMove, Cond.instanceMethod yX4_mayMove]
def wsL_law_r7 : List Cond := [Cond.selects RX4 yX4_mayMove yX4_mayMove, Cond.code yX4_mayMove cX4_mayMove 3 (some .boolean), Cond.methodLink RX4 75 yX4_opposite, Cond.static yX4_opposite, Cond.code yX4_opposite cX4_opposite 1 (some .int), Cond.methodLink RL 60 yL_cell, Cond.static yL_cell, Cond.initialized RL, Cond.code yL_cell cL_cell 3 (some .int), Cond.constant RL 7 (4194303), Cond.methodLink RL 34 yX6_mesh, Cond.instanceMethod yX6_mesh, Cond.selects RX6 yX6_mesh yX6_mesh, Cond.code yX6_mesh cX6_mesh 3 (some .int), Cond.fieldLink RX6 79 "MeshTurns$State" "packets" "LMeshTurns$Packets;", Cond.fieldLink RX6 83 "MeshTurns$Packets" "sent" "I", Cond.methodLink RX6 75 yX6_isLine, Cond.static yX6_isLine, Cond.code yX6_isLine cX6_isLine 1 (some .boolean), Cond.methodLink RX6 68 yX6_recordState, Cond.instanceMethod yX6_recordState, Cond.selects RX6 yX6_recordState yX6_recordState, Cond.code yX6_recordState cX6_recordState 1 none, Cond.methodLink RX6 280 yX6_dropOldestState]
def wsL_law_r8 : List Cond := [Cond.instanceMethod yX6_dropOldestState, Cond.selects RX6 yX6_dropOldestState yX6_dropOldestState, Cond.code yX6_dropOldestState cX6_dropOldestState 3 none, Cond.methodLink RX6 224 yX5_copyState, Cond.static yX5_copyState, Cond.code yX5_copyState cX5_copyState 2 none, Cond.methodLink RX5 39 arraycopyName, Cond.native arraycopyName, Cond.static arraycopyName, Cond.initialized "java/lang/System", Cond.methodLink RX5 45 yX0_copyGrid, Cond.instanceMethod yX0_copyGrid, Cond.selects RX0 yX0_copyGrid yX0_copyGrid, Cond.code yX0_copyGrid cX0_copyGrid 2 none, Cond.methodLink RX5 49 yX2_copyPackets, Cond.instanceMethod yX2_copyPackets, Cond.selects RX2 yX2_copyPackets yX2_copyPackets, Cond.code yX2_copyPackets cX2_copyPackets 2 none, Cond.methodLink RX2 46 arraycopyName, Cond.methodLink RX6 92 yX0_layOut, Cond.instanceMethod yX0_layOut, Cond.selects RX0 yX0_layOut yX0_layOut, Cond.code yX0_layOut cX0_layOut 3 none, Cond.methodLink RX6 98 yX0_boxes]
def wsL_law_r9 : List Cond := [Cond.methodLink RL 8 yX6_count, Cond.instanceMethod yX6_count, Cond.selects RX6 yX6_count yX6_count, Cond.code yX6_count cX6_count 3 (some .int), Cond.fieldLink RX6 113 "MeshTurns$State" "tick" "I", Cond.fieldLink RX6 181 "MeshTurns$Grid" "columns" "I", Cond.fieldLink RX6 141 "MeshTurns$Packets" "moves" "[I", Cond.fieldLink RX6 144 "MeshTurns$Packets" "detours" "[I", Cond.fieldLink RX6 147 "MeshTurns$Packets" "waits" "[I", Cond.fieldLink RX6 198 "MeshTurns$Pad" "length" "I", Cond.methodLink RX6 184 yX2_countIn, Cond.instanceMethod yX2_countIn, Cond.selects RX2 yX2_countIn yX2_countIn, Cond.code yX2_countIn cX2_countIn 4 (some .int), Cond.methodLink RX6 187 yX2_sum, Cond.instanceMethod yX2_sum, Cond.selects RX2 yX2_sum yX2_sum, Cond.code yX2_sum cX2_sum 4 (some .int), Cond.methodLink RX6 191 yX1_size, Cond.instanceMethod yX1_size, Cond.selects RX1 yX1_size yX1_size, Cond.code yX1_size cX1_size 5 (some .int), Cond.fieldLink RX1 19 "MeshTurns$State" "packets" "LMeshTurns$Packets;", Cond.fieldLink RX1 31 "MeshTurns$Packets" "sent" "I"]
def wsL_law_r10 : List Cond := [Cond.methodLink RX1 15 yX1_find, Cond.instanceMethod yX1_find, Cond.selects RX1 yX1_find yX1_find, Cond.code yX1_find cX1_find 7 none, Cond.fieldLink RX1 35 "MeshTurns$Packets" "place" "[I", Cond.methodLink RX1 39 yX1_canGoOn, Cond.instanceMethod yX1_canGoOn, Cond.selects RX1 yX1_canGoOn yX1_canGoOn, Cond.code yX1_canGoOn cX1_canGoOn 6 (some .boolean), Cond.fieldLink RX1 47 "MeshTurns$Packets" "box" "[I", Cond.methodLink RX1 43 yX5_isPossible, Cond.instanceMethod yX5_isPossible, Cond.selects RX5 yX5_isPossible yX5_isPossible, Cond.code yX5_isPossible cX5_isPossible 4 (some .boolean), Cond.fieldLink RX5 63 "MeshTurns$Packets" "box" "[I", Cond.fieldLink RX5 66 "MeshTurns$Packets" "turned" "[I", Cond.fieldLink RX5 69 "MeshTurns$Packets" "to" "[I", Cond.methodLink RX5 84 yX4_lengthAfter, Cond.instanceMethod yX4_lengthAfter, Cond.selects RX4 yX4_lengthAfter yX4_lengthAfter, Cond.code yX4_lengthAfter cX4_lengthAfter 6 (some .int), Cond.methodLink RX4 63 yX4_length, Cond.instanceMethod yX4_length, Cond.selects RX4 yX4_length yX4_length]
def wsL_law_r11 : List Cond := [Cond.code yX4_length cX4_length 5 (some .int), Cond.methodLink RX5 72 yX5_mostMoves, Cond.instanceMethod yX5_mostMoves, Cond.selects RX5 yX5_mostMoves yX5_mostMoves, Cond.code yX5_mostMoves cX5_mostMoves 3 (some .int), Cond.fieldLink RX5 76 "MeshTurns$Packets" "detours" "[I", Cond.methodLink RX5 79 Lib.Math.max.name, Cond.static Lib.Math.max.name, Cond.code Lib.Math.max.name Lib.Math.max.code 2 (some .int), Cond.methodLink RX5 59 yX0_distance, Cond.instanceMethod yX0_distance, Cond.selects RX0 yX0_distance yX0_distance, Cond.code yX0_distance cX0_distance 3 (some .int), Cond.methodLink RX0 22 Lib.Math.abs.name, Cond.static Lib.Math.abs.name, Cond.code Lib.Math.abs.name Lib.Math.abs.code 1 (some .int), Cond.methodLink RX1 50 yX4_boxBehind, Cond.methodLink RX1 56 yX5_letsIn, Cond.instanceMethod yX5_letsIn, Cond.selects RX5 yX5_letsIn yX5_letsIn, Cond.code yX5_letsIn cX5_letsIn 3 (some .boolean), Cond.methodLink RX5 98 yX5_hasRoom, Cond.instanceMethod yX5_hasRoom, Cond.selects RX5 yX5_hasRoom yX5_hasRoom]
def wsL_law_r12 : List Cond := [Cond.code yX5_hasRoom cX5_hasRoom 2 (some .boolean), Cond.methodLink RX1 60 yX1_hasFreePacket, Cond.instanceMethod yX1_hasFreePacket, Cond.selects RX1 yX1_hasFreePacket yX1_hasFreePacket, Cond.code yX1_hasFreePacket cX1_hasFreePacket 4 (some .boolean), Cond.methodLink RX6 195 yX0_brokenLinks, Cond.instanceMethod yX0_brokenLinks, Cond.selects RX0 yX0_brokenLinks yX0_brokenLinks, Cond.code yX0_brokenLinks cX0_brokenLinks 1 (some .int), Cond.methodLink RX0 43 yJ13_bitCount_95d88, Cond.static yJ13_bitCount_95d88, Cond.initialized RJ13, Cond.code yJ13_bitCount_95d88 cJ13_bitCount_95d88 2 (some .int), Cond.constantLong RJ13 314 (6148914691236517205), Cond.constantLong RJ13 316 (3689348814741910323), Cond.constantLong RJ13 318 (1085102592571150095), Cond.methodLink RL 37 yX6_set, Cond.instanceMethod yX6_set, Cond.selects RX6 yX6_set yX6_set, Cond.code yX6_set cX6_set 4 (some .int), Cond.methodLink RX6 61 yX6_leastOfSetting, Cond.static yX6_leastOfSetting, Cond.code yX6_leastOfSetting cX6_leastOfSetting 1 (some .int), Cond.methodLink RX6 65 yX6_mostOfSetting]
def wsL_law_r13 : List Cond := [Cond.static yX6_mostOfSetting, Cond.code yX6_mostOfSetting cX6_mostOfSetting 1 (some .int), Cond.methodLink RL 68 yL_isLink, Cond.static yL_isLink, Cond.code yL_isLink cL_isLink 8 (some .boolean), Cond.methodLink RL 24 yX6_ofBox, Cond.instanceMethod yX6_ofBox, Cond.selects RX6 yX6_ofBox yX6_ofBox, Cond.code yX6_ofBox cX6_ofBox 3 (some .int), Cond.fieldLink RX6 178 "MeshTurns$State" "movesFrom" "[I", Cond.methodLink RX6 171 yX0_has, Cond.instanceMethod yX0_has, Cond.selects RX0 yX0_has yX0_has, Cond.code yX0_has cX0_has 2 (some .boolean), Cond.methodLink RX6 172 yX2_countAt, Cond.instanceMethod yX2_countAt, Cond.selects RX2 yX2_countAt yX2_countAt, Cond.code yX2_countAt cX2_countAt 5 (some .int), Cond.methodLink RX6 175 yX6_linkState, Cond.instanceMethod yX6_linkState, Cond.selects RX6 yX6_linkState yX6_linkState, Cond.code yX6_linkState cX6_linkState 4 (some .int), Cond.methodLink RX6 261 yX0_linkAt, Cond.methodLink RX6 264 yX0_isWhole]
def wsL_law_r14 : List Cond := [Cond.methodLink RL 56 yX6_pairs, Cond.instanceMethod yX6_pairs, Cond.selects RX6 yX6_pairs yX6_pairs, Cond.code yX6_pairs cX6_pairs 1 (some .int), Cond.methodLink RX6 208 yX5_connectedPairs, Cond.instanceMethod yX5_connectedPairs, Cond.selects RX5 yX5_connectedPairs yX5_connectedPairs, Cond.code yX5_connectedPairs cX5_connectedPairs 6 (some .int), Cond.methodLink RX5 102 yX0_boxes, Cond.methodLink RX5 106 yX5_wayLength, Cond.instanceMethod yX5_wayLength, Cond.selects RX5 yX5_wayLength yX5_wayLength, Cond.code yX5_wayLength cX5_wayLength 5 (some .int), Cond.methodLink RX5 53 yX4_length, Cond.methodLink RL 40 yX6_link, Cond.instanceMethod yX6_link, Cond.selects RX6 yX6_link yX6_link, Cond.code yX6_link cX6_link 5 (some .int), Cond.methodLink RX6 102 yX6_linkError, Cond.instanceMethod yX6_linkError, Cond.selects RX6 yX6_linkError yX6_linkError, Cond.code yX6_linkError cX6_linkError 4 (some .int), Cond.methodLink RX6 251 yX6_isSide, Cond.static yX6_isSide]
def wsL_law_r15 : List Cond := [Cond.code yX6_isSide cX6_isSide 1 (some .boolean), Cond.methodLink RX6 254 yX0_beside, Cond.methodLink RX6 106 yX6_changeLink, Cond.instanceMethod yX6_changeLink, Cond.selects RX6 yX6_changeLink yX6_changeLink, Cond.code yX6_changeLink cX6_changeLink 6 (some .int), Cond.methodLink RX6 267 yX0_makeWhole, Cond.instanceMethod yX0_makeWhole, Cond.selects RX0 yX0_makeWhole yX0_makeWhole, Cond.code yX0_makeWhole cX0_makeWhole 5 none, Cond.constantLong RX0 41 (-1), Cond.methodLink RL 79 yL_isAct, Cond.static yL_isAct, Cond.code yL_isAct cL_isAct 7 (some .boolean), Cond.methodLink RL 64 yL_isSent, Cond.static yL_isSent, Cond.code yL_isSent cL_isSent 6 (some .boolean), Cond.methodLink RL 44 yX6_leastWay, Cond.instanceMethod yX6_leastWay, Cond.selects RX6 yX6_leastWay yX6_leastWay, Cond.code yX6_leastWay cX6_leastWay 3 (some .int), Cond.methodLink RX6 201 yX5_wayLength, Cond.methodLink RL 47 yX6_send, Cond.instanceMethod yX6_send]
def wsL_law_r16 : List Cond := [Cond.selects RX6 yX6_send yX6_send, Cond.code yX6_send cX6_send 4 (some .int), Cond.methodLink RX6 109 yX6_sendError, Cond.instanceMethod yX6_sendError, Cond.selects RX6 yX6_sendError yX6_sendError, Cond.code yX6_sendError cX6_sendError 3 (some .int), Cond.methodLink RX6 116 yX2_add, Cond.instanceMethod yX2_add, Cond.selects RX2 yX2_add yX2_add, Cond.code yX2_add cX2_add 5 (some .int), Cond.methodLink RL 14 yX6_ofPacket, Cond.instanceMethod yX6_ofPacket, Cond.selects RX6 yX6_ofPacket yX6_ofPacket, Cond.code yX6_ofPacket cX6_ofPacket 4 (some .int), Cond.fieldLink RX6 129 "MeshTurns$Packets" "from" "[I", Cond.fieldLink RX6 132 "MeshTurns$Packets" "to" "[I", Cond.fieldLink RX6 135 "MeshTurns$Packets" "place" "[I", Cond.fieldLink RX6 138 "MeshTurns$Packets" "box" "[I", Cond.fieldLink RX6 150 "MeshTurns$Packets" "sentIn" "[I", Cond.fieldLink RX6 153 "MeshTurns$Packets" "arrivedIn" "[I", Cond.fieldLink RX6 156 "MeshTurns$Packets" "turned" "[I", Cond.methodLink RX6 126 yX2_has, Cond.instanceMethod yX2_has, Cond.selects RX2 yX2_has yX2_has]
def wsL_law_r17 : List Cond := [Cond.code yX2_has cX2_has 2 (some .boolean), Cond.methodLink RX6 159 yX5_wayLengthOf, Cond.instanceMethod yX5_wayLengthOf, Cond.selects RX5 yX5_wayLengthOf yX5_wayLengthOf, Cond.code yX5_wayLengthOf cX5_wayLengthOf 4 (some .int), Cond.methodLink RX6 163 yX5_firstSide, Cond.instanceMethod yX5_firstSide, Cond.selects RX5 yX5_firstSide yX5_firstSide, Cond.code yX5_firstSide cX5_firstSide 9 (some .int), Cond.fieldLink RX5 88 "MeshTurns$Packets" "place" "[I", Cond.methodLink RX5 91 yX4_boxBehind, Cond.methodLink RX5 94 yX5_letsIn, Cond.methodLink RX6 167 yX1_holds, Cond.instanceMethod yX1_holds, Cond.selects RX1 yX1_holds yX1_holds, Cond.code yX1_holds cX1_holds 4 (some .boolean), Cond.methodLink RX1 25 yX2_has, Cond.methodLink RL 72 yL_isAlone, Cond.static yL_isAlone, Cond.code yL_isAlone cL_isAlone 11 (some .boolean), Cond.methodLink RL 50 yX6_ways, Cond.instanceMethod yX6_ways, Cond.selects RX6 yX6_ways yX6_ways, Cond.code yX6_ways cX6_ways 3 (some .int)]
def wsL_law_r18 : List Cond := [Cond.methodLink RX6 205 yX4_shortestWays, Cond.instanceMethod yX4_shortestWays, Cond.selects RX4 yX4_shortestWays yX4_shortestWays, Cond.code yX4_shortestWays cX4_shortestWays 3 (some .int), Cond.methodLink RL 18 yL_apart, Cond.static yL_apart, Cond.code yL_apart cL_apart 6 (some .int), Cond.methodLink RL 53 yX6_arrivesIn, Cond.instanceMethod yX6_arrivesIn, Cond.selects RX6 yX6_arrivesIn yX6_arrivesIn, Cond.code yX6_arrivesIn cX6_arrivesIn 3 (some .int), Cond.methodLink RX6 122 yX5_passTicks, Cond.instanceMethod yX5_passTicks, Cond.selects RX5 yX5_passTicks yX5_passTicks, Cond.code yX5_passTicks cX5_passTicks 7 none, Cond.fieldLink RX5 110 "MeshTurns$Packets" "sent" "I", Cond.fieldLink RX5 120 "MeshTurns$Packets" "waits" "[I", Cond.methodLink RX5 113 yX5_comesInside, Cond.instanceMethod yX5_comesInside, Cond.selects RX5 yX5_comesInside yX5_comesInside, Cond.code yX5_comesInside cX5_comesInside 3 (some .boolean), Cond.methodLink RX5 116 yX5_movesOn, Cond.instanceMethod yX5_movesOn, Cond.selects RX5 yX5_movesOn yX5_movesOn]
def wsL_law_r19 : List Cond := [Cond.code yX5_movesOn cX5_movesOn 7 (some .boolean), Cond.fieldLink RX5 131 "MeshTurns$Packets" "arrivedIn" "[I", Cond.methodLink RX5 123 yX5_firstSide, Cond.methodLink RX5 127 yX2_noteMove, Cond.instanceMethod yX2_noteMove, Cond.selects RX2 yX2_noteMove yX2_noteMove, Cond.code yX2_noteMove cX2_noteMove 5 none, Cond.methodLink RL 30 yX6_ticks, Cond.instanceMethod yX6_ticks, Cond.selects RX6 yX6_ticks yX6_ticks, Cond.code yX6_ticks cX6_ticks 2 (some .int), Cond.methodLink RX6 119 yX6_isTicks, Cond.static yX6_isTicks, Cond.code yX6_isTicks cX6_isTicks 1 (some .boolean), Cond.methodLink RL 27 yL_beside, Cond.static yL_beside, Cond.code yL_beside cL_beside 7 (some .int), Cond.methodLink RL 75 yL_isTick, Cond.static yL_isTick, Cond.code yL_isTick cL_isTick 16 (some .boolean), Cond.methodLink RL 83 yL_agree, Cond.static yL_agree, Cond.code yL_agree cL_agree 14 (some .boolean)]
def wsL_law : List Cond := (wsL_law_r1 ++ (wsL_law_r2 ++ (wsL_law_r3 ++ (wsL_law_r4 ++ (wsL_law_r5 ++ (wsL_law_r6 ++ (wsL_law_r7 ++ (wsL_law_r8 ++ (wsL_law_r9 ++ (wsL_law_r10 ++ (wsL_law_r11 ++ (wsL_law_r12 ++ (wsL_law_r13 ++ (wsL_law_r14 ++ (wsL_law_r15 ++ (wsL_law_r16 ++ (wsL_law_r17 ++ (wsL_law_r18 ++ wsL_law_r19)))))))))))))))))) ++ wsX60 ++ wsX50 ++ wsX40 ++ wsX10 ++ wsX30 ++ wsX00 ++ wsX20 ++ ([] : List Cond)
theorem zsub_1 : ∀ w ∈ wsL_law_r1, w ∈ wsL_law := fun _ h => List.mem_append_left _ (List.mem_append_left _ (List.mem_append_left _ (List.mem_append_left _ (List.mem_append_left _ (List.mem_append_left _ (List.mem_append_left _ (List.mem_append_left _ (List.mem_append_left _ h))))))))
theorem zsub_2 : ∀ w ∈ wsL_law_r2, w ∈ wsL_law := fun _ h => List.mem_append_left _ (List.mem_append_left _ (List.mem_append_left _ (List.mem_append_left _ (List.mem_append_left _ (List.mem_append_left _ (List.mem_append_left _ (List.mem_append_left _ (List.mem_append_right _ (List.mem_append_left _ h)))))))))
theorem zsub_3 : ∀ w ∈ wsL_law_r3, w ∈ wsL_law := fun _ h => List.mem_append_left _ (List.mem_append_left _ (List.mem_append_left _ (List.mem_append_left _ (List.mem_append_left _ (List.mem_append_left _ (List.mem_append_left _ (List.mem_append_left _ (List.mem_append_right _ (List.mem_append_right _ (List.mem_append_left _ h))))))))))
theorem zsub_4 : ∀ w ∈ wsL_law_r4, w ∈ wsL_law := fun _ h => List.mem_append_left _ (List.mem_append_left _ (List.mem_append_left _ (List.mem_append_left _ (List.mem_append_left _ (List.mem_append_left _ (List.mem_append_left _ (List.mem_append_left _ (List.mem_append_right _ (List.mem_append_right _ (List.mem_append_right _ (List.mem_append_left _ h)))))))))))
theorem zsub_5 : ∀ w ∈ wsL_law_r5, w ∈ wsL_law := fun _ h => List.mem_append_left _ (List.mem_append_left _ (List.mem_append_left _ (List.mem_append_left _ (List.mem_append_left _ (List.mem_append_left _ (List.mem_append_left _ (List.mem_append_left _ (List.mem_append_right _ (List.mem_append_right _ (List.mem_append_right _ (List.mem_append_right _ (List.mem_append_left _ h))))))))))))
theorem zsub_6 : ∀ w ∈ wsL_law_r6, w ∈ wsL_law := fun _ h => List.mem_append_left _ (List.mem_append_left _ (List.mem_append_left _ (List.mem_append_left _ (List.mem_append_left _ (List.mem_append_left _ (List.mem_append_left _ (List.mem_append_left _ (List.mem_append_right _ (List.mem_append_right _ (List.mem_append_right _ (List.mem_append_right _ (List.mem_append_right _ (List.mem_append_left _ h)))))))))))))
theorem zsub_7 : ∀ w ∈ wsL_law_r7, w ∈ wsL_law := fun _ h => List.mem_append_left _ (List.mem_append_left _ (List.mem_append_left _ (List.mem_append_left _ (List.mem_append_left _ (List.mem_append_left _ (List.mem_append_left _ (List.mem_append_left _ (List.mem_append_right _ (List.mem_append_right _ (List.mem_append_right _ (List.mem_append_right _ (List.mem_append_right _ (List.mem_append_right _ (List.mem_append_left _ h))))))))))))))
theorem zsub_8 : ∀ w ∈ wsL_law_r8, w ∈ wsL_law := fun _ h => List.mem_append_left _ (List.mem_append_left _ (List.mem_append_left _ (List.mem_append_left _ (List.mem_append_left _ (List.mem_append_left _ (List.mem_append_left _ (List.mem_append_left _ (List.mem_append_right _ (List.mem_append_right _ (List.mem_append_right _ (List.mem_append_right _ (List.mem_append_right _ (List.mem_append_right _ (List.mem_append_right _ (List.mem_append_left _ h)))))))))))))))
theorem zsub_9 : ∀ w ∈ wsL_law_r9, w ∈ wsL_law := fun _ h => List.mem_append_left _ (List.mem_append_left _ (List.mem_append_left _ (List.mem_append_left _ (List.mem_append_left _ (List.mem_append_left _ (List.mem_append_left _ (List.mem_append_left _ (List.mem_append_right _ (List.mem_append_right _ (List.mem_append_right _ (List.mem_append_right _ (List.mem_append_right _ (List.mem_append_right _ (List.mem_append_right _ (List.mem_append_right _ (List.mem_append_left _ h))))))))))))))))
theorem zsub_10 : ∀ w ∈ wsL_law_r10, w ∈ wsL_law := fun _ h => List.mem_append_left _ (List.mem_append_left _ (List.mem_append_left _ (List.mem_append_left _ (List.mem_append_left _ (List.mem_append_left _ (List.mem_append_left _ (List.mem_append_left _ (List.mem_append_right _ (List.mem_append_right _ (List.mem_append_right _ (List.mem_append_right _ (List.mem_append_right _ (List.mem_append_right _ (List.mem_append_right _ (List.mem_append_right _ (List.mem_append_right _ (List.mem_append_left _ h)))))))))))))))))
theorem zsub_11 : ∀ w ∈ wsL_law_r11, w ∈ wsL_law := fun _ h => List.mem_append_left _ (List.mem_append_left _ (List.mem_append_left _ (List.mem_append_left _ (List.mem_append_left _ (List.mem_append_left _ (List.mem_append_left _ (List.mem_append_left _ (List.mem_append_right _ (List.mem_append_right _ (List.mem_append_right _ (List.mem_append_right _ (List.mem_append_right _ (List.mem_append_right _ (List.mem_append_right _ (List.mem_append_right _ (List.mem_append_right _ (List.mem_append_right _ (List.mem_append_left _ h))))))))))))))))))
theorem zsub_12 : ∀ w ∈ wsL_law_r12, w ∈ wsL_law := fun _ h => List.mem_append_left _ (List.mem_append_left _ (List.mem_append_left _ (List.mem_append_left _ (List.mem_append_left _ (List.mem_append_left _ (List.mem_append_left _ (List.mem_append_left _ (List.mem_append_right _ (List.mem_append_right _ (List.mem_append_right _ (List.mem_append_right _ (List.mem_append_right _ (List.mem_append_right _ (List.mem_append_right _ (List.mem_append_right _ (List.mem_append_right _ (List.mem_append_right _ (List.mem_append_right _ (List.mem_append_left _ h)))))))))))))))))))
theorem zsub_13 : ∀ w ∈ wsL_law_r13, w ∈ wsL_law := fun _ h => List.mem_append_left _ (List.mem_append_left _ (List.mem_append_left _ (List.mem_append_left _ (List.mem_append_left _ (List.mem_append_left _ (List.mem_append_left _ (List.mem_append_left _ (List.mem_append_right _ (List.mem_append_right _ (List.mem_append_right _ (List.mem_append_right _ (List.mem_append_right _ (List.mem_append_right _ (List.mem_append_right _ (List.mem_append_right _ (List.mem_append_right _ (List.mem_append_right _ (List.mem_append_right _ (List.mem_append_right _ (List.mem_append_left _ h))))))))))))))))))))
theorem zsub_14 : ∀ w ∈ wsL_law_r14, w ∈ wsL_law := fun _ h => List.mem_append_left _ (List.mem_append_left _ (List.mem_append_left _ (List.mem_append_left _ (List.mem_append_left _ (List.mem_append_left _ (List.mem_append_left _ (List.mem_append_left _ (List.mem_append_right _ (List.mem_append_right _ (List.mem_append_right _ (List.mem_append_right _ (List.mem_append_right _ (List.mem_append_right _ (List.mem_append_right _ (List.mem_append_right _ (List.mem_append_right _ (List.mem_append_right _ (List.mem_append_right _ (List.mem_append_right _ (List.mem_append_right _ (List.mem_append_left _ h)))))))))))))))))))))
theorem zsub_15 : ∀ w ∈ wsL_law_r15, w ∈ wsL_law := fun _ h => List.mem_append_left _ (List.mem_append_left _ (List.mem_append_left _ (List.mem_append_left _ (List.mem_append_left _ (List.mem_append_left _ (List.mem_append_left _ (List.mem_append_left _ (List.mem_append_right _ (List.mem_append_right _ (List.mem_append_right _ (List.mem_append_right _ (List.mem_append_right _ (List.mem_append_right _ (List.mem_append_right _ (List.mem_append_right _ (List.mem_append_right _ (List.mem_append_right _ (List.mem_append_right _ (List.mem_append_right _ (List.mem_append_right _ (List.mem_append_right _ (List.mem_append_left _ h))))))))))))))))))))))
theorem zsub_16 : ∀ w ∈ wsL_law_r16, w ∈ wsL_law := fun _ h => List.mem_append_left _ (List.mem_append_left _ (List.mem_append_left _ (List.mem_append_left _ (List.mem_append_left _ (List.mem_append_left _ (List.mem_append_left _ (List.mem_append_left _ (List.mem_append_right _ (List.mem_append_right _ (List.mem_append_right _ (List.mem_append_right _ (List.mem_append_right _ (List.mem_append_right _ (List.mem_append_right _ (List.mem_append_right _ (List.mem_append_right _ (List.mem_append_right _ (List.mem_append_right _ (List.mem_append_right _ (List.mem_append_right _ (List.mem_append_right _ (List.mem_append_right _ (List.mem_append_left _ h)))))))))))))))))))))))
theorem zsub_17 : ∀ w ∈ wsL_law_r17, w ∈ wsL_law := fun _ h => List.mem_append_left _ (List.mem_append_left _ (List.mem_append_left _ (List.mem_append_left _ (List.mem_append_left _ (List.mem_append_left _ (List.mem_append_left _ (List.mem_append_left _ (List.mem_append_right _ (List.mem_append_right _ (List.mem_append_right _ (List.mem_append_right _ (List.mem_append_right _ (List.mem_append_right _ (List.mem_append_right _ (List.mem_append_right _ (List.mem_append_right _ (List.mem_append_right _ (List.mem_append_right _ (List.mem_append_right _ (List.mem_append_right _ (List.mem_append_right _ (List.mem_append_right _ (List.mem_append_right _ (List.mem_append_left _ h))))))))))))))))))))))))
theorem zsub_18 : ∀ w ∈ wsL_law_r18, w ∈ wsL_law := fun _ h => List.mem_append_left _ (List.mem_append_left _ (List.mem_append_left _ (List.mem_append_left _ (List.mem_append_left _ (List.mem_append_left _ (List.mem_append_left _ (List.mem_append_left _ (List.mem_append_right _ (List.mem_append_right _ (List.mem_append_right _ (List.mem_append_right _ (List.mem_append_right _ (List.mem_append_right _ (List.mem_append_right _ (List.mem_append_right _ (List.mem_append_right _ (List.mem_append_right _ (List.mem_append_right _ (List.mem_append_right _ (List.mem_append_right _ (List.mem_append_right _ (List.mem_append_right _ (List.mem_append_right _ (List.mem_append_right _ (List.mem_append_left _ h)))))))))))))))))))))))))
theorem zsub_19 : ∀ w ∈ wsL_law_r19, w ∈ wsL_law := fun _ h => List.mem_append_left _ (List.mem_append_left _ (List.mem_append_left _ (List.mem_append_left _ (List.mem_append_left _ (List.mem_append_left _ (List.mem_append_left _ (List.mem_append_left _ (List.mem_append_right _ (List.mem_append_right _ (List.mem_append_right _ (List.mem_append_right _ (List.mem_append_right _ (List.mem_append_right _ (List.mem_append_right _ (List.mem_append_right _ (List.mem_append_right _ (List.mem_append_right _ (List.mem_append_right _ (List.mem_append_right _ (List.mem_append_right _ (List.mem_append_right _ (List.mem_append_right _ (List.mem_append_right _ (List.mem_append_right _ (List.mem_append_right _ (h))))))))))))))))))))))))))
theorem inlX0 : ∀ w ∈ wsX00, w ∈ wsL_law := fun _ h => List.mem_append_left _ (List.mem_append_left _ (List.mem_append_right _ h))
theorem inlX1 : ∀ w ∈ wsX10, w ∈ wsL_law := fun _ h => List.mem_append_left _ (List.mem_append_left _ (List.mem_append_left _ (List.mem_append_left _ (List.mem_append_right _ h))))
theorem inlX2 : ∀ w ∈ wsX20, w ∈ wsL_law := fun _ h => List.mem_append_left _ (List.mem_append_right _ h)
theorem inlX3 : ∀ w ∈ wsX30, w ∈ wsL_law := fun _ h => List.mem_append_left _ (List.mem_append_left _ (List.mem_append_left _ (List.mem_append_right _ h)))
theorem inlX4 : ∀ w ∈ wsX40, w ∈ wsL_law := fun _ h => List.mem_append_left _ (List.mem_append_left _ (List.mem_append_left _ (List.mem_append_left _ (List.mem_append_left _ (List.mem_append_right _ h)))))
theorem inlX5 : ∀ w ∈ wsX50, w ∈ wsL_law := fun _ h => List.mem_append_left _ (List.mem_append_left _ (List.mem_append_left _ (List.mem_append_left _ (List.mem_append_left _ (List.mem_append_left _ (List.mem_append_right _ h))))))
theorem inlX6 : ∀ w ∈ wsX60, w ∈ wsL_law := fun _ h => List.mem_append_left _ (List.mem_append_left _ (List.mem_append_left _ (List.mem_append_left _ (List.mem_append_left _ (List.mem_append_left _ (List.mem_append_left _ (List.mem_append_right _ h)))))))
theorem qk_RL_9 : Cond.classLink RL 9 RX6 ∈ wsL_law := zsub_1 _ (List.mem_of_getElem? (i := 0) rfl)
theorem qx_RX6 : Cond.instantiable RX6 10 ∈ wsL_law := zsub_1 _ (List.mem_of_getElem? (i := 1) rfl)
theorem qn_RX6 : Cond.initialized RX6 ∈ wsL_law := zsub_1 _ (List.mem_of_getElem? (i := 2) rfl)
theorem qm_RL_33 : Cond.methodLink RL 33 yX6_init ∈ wsL_law := zsub_1 _ (List.mem_of_getElem? (i := 3) rfl)
theorem qi_X6_init : Cond.instanceMethod yX6_init ∈ wsL_law := zsub_1 _ (List.mem_of_getElem? (i := 4) rfl)
theorem qc_X6_init : Cond.code yX6_init cX6_init 2 none ∈ wsL_law := zsub_1 _ (List.mem_of_getElem? (i := 5) rfl)
theorem qm_RX6_3 : Cond.methodLink RX6 3 objectInit ∈ wsL_law := zsub_1 _ (List.mem_of_getElem? (i := 6) rfl)
theorem qi_objectInit : Cond.instanceMethod objectInit ∈ wsL_law := zsub_1 _ (List.mem_of_getElem? (i := 7) rfl)
theorem qc_objectInit : Cond.code objectInit ⟨#[0xb1]⟩ 1 none ∈ wsL_law := zsub_1 _ (List.mem_of_getElem? (i := 8) rfl)
theorem qk_RX6_9 : Cond.classLink RX6 9 RX5 ∈ wsL_law := zsub_1 _ (List.mem_of_getElem? (i := 9) rfl)
theorem qx_RX5 : Cond.instantiable RX5 6 ∈ wsL_law := zsub_1 _ (List.mem_of_getElem? (i := 10) rfl)
theorem qn_RX5 : Cond.initialized RX5 ∈ wsL_law := zsub_1 _ (List.mem_of_getElem? (i := 11) rfl)
theorem qf_RX6_12 : Cond.fieldLink RX6 12 "MeshTurns" "now" "LMeshTurns$State;" ∈ wsL_law := zsub_1 _ (List.mem_of_getElem? (i := 12) rfl)
theorem qk_RX6_16 : Cond.classLink RX6 16 RX4 ∈ wsL_law := zsub_1 _ (List.mem_of_getElem? (i := 13) rfl)
theorem qx_RX4 : Cond.instantiable RX4 6 ∈ wsL_law := zsub_1 _ (List.mem_of_getElem? (i := 14) rfl)
theorem qn_RX4 : Cond.initialized RX4 ∈ wsL_law := zsub_1 _ (List.mem_of_getElem? (i := 15) rfl)
theorem qf_RX6_19 : Cond.fieldLink RX6 19 "MeshTurns" "routes" "LMeshTurns$Routes;" ∈ wsL_law := zsub_1 _ (List.mem_of_getElem? (i := 16) rfl)
theorem qf_RX6_23 : Cond.fieldLink RX6 23 "MeshTurns" "trial" "LMeshTurns$State;" ∈ wsL_law := zsub_1 _ (List.mem_of_getElem? (i := 17) rfl)
theorem qf_RX6_26 : Cond.fieldLink RX6 26 "MeshTurns" "trialRoutes" "LMeshTurns$Routes;" ∈ wsL_law := zsub_1 _ (List.mem_of_getElem? (i := 18) rfl)
theorem qk_RX6_29 : Cond.classLink RX6 29 RX1 ∈ wsL_law := zsub_1 _ (List.mem_of_getElem? (i := 19) rfl)
theorem qx_RX1 : Cond.instantiable RX1 1 ∈ wsL_law := zsub_1 _ (List.mem_of_getElem? (i := 20) rfl)
theorem qn_RX1 : Cond.initialized RX1 ∈ wsL_law := zsub_1 _ (List.mem_of_getElem? (i := 21) rfl)
theorem qf_RX6_32 : Cond.fieldLink RX6 32 "MeshTurns" "jam" "LMeshTurns$Jam;" ∈ wsL_law := zsub_1 _ (List.mem_of_getElem? (i := 22) rfl)
theorem qk_RX6_36 : Cond.classLink RX6 36 RX3 ∈ wsL_law := zsub_1 _ (List.mem_of_getElem? (i := 23) rfl)
theorem qx_RX3 : Cond.instantiable RX3 7 ∈ wsL_law := zsub_2 _ (List.mem_of_getElem? (i := 0) rfl)
theorem qn_RX3 : Cond.initialized RX3 ∈ wsL_law := zsub_2 _ (List.mem_of_getElem? (i := 1) rfl)
theorem qf_RX6_39 : Cond.fieldLink RX6 39 "MeshTurns" "pad" "LMeshTurns$Pad;" ∈ wsL_law := zsub_2 _ (List.mem_of_getElem? (i := 2) rfl)
theorem qf_RX6_43 : Cond.fieldLink RX6 43 "MeshTurns" "history" "[LMeshTurns$State;" ∈ wsL_law := zsub_2 _ (List.mem_of_getElem? (i := 3) rfl)
theorem qf_RX6_47 : Cond.fieldLink RX6 47 "MeshTurns" "undoable" "I" ∈ wsL_law := zsub_2 _ (List.mem_of_getElem? (i := 4) rfl)
theorem qf_RX6_51 : Cond.fieldLink RX6 51 "MeshTurns" "slots" "[LMeshTurns$State;" ∈ wsL_law := zsub_2 _ (List.mem_of_getElem? (i := 5) rfl)
theorem qa__boolean : Cond.arrayClass .boolean ∈ wsL_law := zsub_2 _ (List.mem_of_getElem? (i := 6) rfl)
theorem qf_RX6_54 : Cond.fieldLink RX6 54 "MeshTurns" "slotIsUsed" "[Z" ∈ wsL_law := zsub_2 _ (List.mem_of_getElem? (i := 7) rfl)
theorem qi_X5_init : Cond.instanceMethod yX5_init ∈ wsL_law := zsub_2 _ (List.mem_of_getElem? (i := 8) rfl)
theorem qc_X5_init : Cond.code yX5_init cX5_init 1 none ∈ wsL_law := zsub_2 _ (List.mem_of_getElem? (i := 9) rfl)
theorem qm_RX5_3 : Cond.methodLink RX5 3 objectInit ∈ wsL_law := zsub_2 _ (List.mem_of_getElem? (i := 10) rfl)
theorem qa__int : Cond.arrayClass .int ∈ wsL_law := zsub_2 _ (List.mem_of_getElem? (i := 11) rfl)
theorem qf_RX5_9 : Cond.fieldLink RX5 9 "MeshTurns$State" "settings" "[I" ∈ wsL_law := zsub_2 _ (List.mem_of_getElem? (i := 12) rfl)
theorem qk_RX5_15 : Cond.classLink RX5 15 RX0 ∈ wsL_law := zsub_2 _ (List.mem_of_getElem? (i := 13) rfl)
theorem qx_RX0 : Cond.instantiable RX0 3 ∈ wsL_law := zsub_2 _ (List.mem_of_getElem? (i := 14) rfl)
theorem qn_RX0 : Cond.initialized RX0 ∈ wsL_law := zsub_2 _ (List.mem_of_getElem? (i := 15) rfl)
theorem qf_RX5_18 : Cond.fieldLink RX5 18 "MeshTurns$State" "grid" "LMeshTurns$Grid;" ∈ wsL_law := zsub_2 _ (List.mem_of_getElem? (i := 16) rfl)
theorem qk_RX5_22 : Cond.classLink RX5 22 RX2 ∈ wsL_law := zsub_2 _ (List.mem_of_getElem? (i := 17) rfl)
theorem qx_RX2 : Cond.instantiable RX2 11 ∈ wsL_law := zsub_2 _ (List.mem_of_getElem? (i := 18) rfl)
theorem qn_RX2 : Cond.initialized RX2 ∈ wsL_law := zsub_2 _ (List.mem_of_getElem? (i := 19) rfl)
theorem qf_RX5_25 : Cond.fieldLink RX5 25 "MeshTurns$State" "packets" "LMeshTurns$Packets;" ∈ wsL_law := zsub_2 _ (List.mem_of_getElem? (i := 20) rfl)
theorem qf_RX5_29 : Cond.fieldLink RX5 29 "MeshTurns$State" "inside" "[I" ∈ wsL_law := zsub_2 _ (List.mem_of_getElem? (i := 21) rfl)
theorem qf_RX5_32 : Cond.fieldLink RX5 32 "MeshTurns$State" "movesFrom" "[I" ∈ wsL_law := zsub_2 _ (List.mem_of_getElem? (i := 22) rfl)
theorem qf_RX5_35 : Cond.fieldLink RX5 35 "MeshTurns$State" "tick" "I" ∈ wsL_law := zsub_2 _ (List.mem_of_getElem? (i := 23) rfl)
theorem qi_X0_init : Cond.instanceMethod yX0_init ∈ wsL_law := zsub_3 _ (List.mem_of_getElem? (i := 0) rfl)
theorem qc_X0_init : Cond.code yX0_init cX0_init 1 none ∈ wsL_law := zsub_3 _ (List.mem_of_getElem? (i := 1) rfl)
theorem qm_RX0_3 : Cond.methodLink RX0 3 objectInit ∈ wsL_law := zsub_3 _ (List.mem_of_getElem? (i := 2) rfl)
theorem qf_RX0_9 : Cond.fieldLink RX0 9 "MeshTurns$Grid" "columns" "I" ∈ wsL_law := zsub_3 _ (List.mem_of_getElem? (i := 3) rfl)
theorem qf_RX0_15 : Cond.fieldLink RX0 15 "MeshTurns$Grid" "rows" "I" ∈ wsL_law := zsub_3 _ (List.mem_of_getElem? (i := 4) rfl)
theorem qf_RX0_18 : Cond.fieldLink RX0 18 "MeshTurns$Grid" "broken" "J" ∈ wsL_law := zsub_3 _ (List.mem_of_getElem? (i := 5) rfl)
theorem qi_X2_init : Cond.instanceMethod yX2_init ∈ wsL_law := zsub_3 _ (List.mem_of_getElem? (i := 6) rfl)
theorem qc_X2_init : Cond.code yX2_init cX2_init 1 none ∈ wsL_law := zsub_3 _ (List.mem_of_getElem? (i := 7) rfl)
theorem qm_RX2_3 : Cond.methodLink RX2 3 objectInit ∈ wsL_law := zsub_3 _ (List.mem_of_getElem? (i := 8) rfl)
theorem qf_RX2_9 : Cond.fieldLink RX2 9 "MeshTurns$Packets" "sent" "I" ∈ wsL_law := zsub_3 _ (List.mem_of_getElem? (i := 9) rfl)
theorem qf_RX2_15 : Cond.fieldLink RX2 15 "MeshTurns$Packets" "from" "[I" ∈ wsL_law := zsub_3 _ (List.mem_of_getElem? (i := 10) rfl)
theorem qf_RX2_19 : Cond.fieldLink RX2 19 "MeshTurns$Packets" "to" "[I" ∈ wsL_law := zsub_3 _ (List.mem_of_getElem? (i := 11) rfl)
theorem qf_RX2_22 : Cond.fieldLink RX2 22 "MeshTurns$Packets" "place" "[I" ∈ wsL_law := zsub_3 _ (List.mem_of_getElem? (i := 12) rfl)
theorem qf_RX2_25 : Cond.fieldLink RX2 25 "MeshTurns$Packets" "box" "[I" ∈ wsL_law := zsub_3 _ (List.mem_of_getElem? (i := 13) rfl)
theorem qf_RX2_28 : Cond.fieldLink RX2 28 "MeshTurns$Packets" "moves" "[I" ∈ wsL_law := zsub_3 _ (List.mem_of_getElem? (i := 14) rfl)
theorem qf_RX2_31 : Cond.fieldLink RX2 31 "MeshTurns$Packets" "detours" "[I" ∈ wsL_law := zsub_3 _ (List.mem_of_getElem? (i := 15) rfl)
theorem qf_RX2_34 : Cond.fieldLink RX2 34 "MeshTurns$Packets" "waits" "[I" ∈ wsL_law := zsub_3 _ (List.mem_of_getElem? (i := 16) rfl)
theorem qf_RX2_37 : Cond.fieldLink RX2 37 "MeshTurns$Packets" "sentIn" "[I" ∈ wsL_law := zsub_3 _ (List.mem_of_getElem? (i := 17) rfl)
theorem qf_RX2_40 : Cond.fieldLink RX2 40 "MeshTurns$Packets" "arrivedIn" "[I" ∈ wsL_law := zsub_3 _ (List.mem_of_getElem? (i := 18) rfl)
theorem qf_RX2_43 : Cond.fieldLink RX2 43 "MeshTurns$Packets" "turned" "[I" ∈ wsL_law := zsub_3 _ (List.mem_of_getElem? (i := 19) rfl)
theorem qi_X4_init : Cond.instanceMethod yX4_init ∈ wsL_law := zsub_3 _ (List.mem_of_getElem? (i := 20) rfl)
theorem qc_X4_init : Cond.code yX4_init cX4_init 1 none ∈ wsL_law := zsub_3 _ (List.mem_of_getElem? (i := 21) rfl)
theorem qm_RX4_3 : Cond.methodLink RX4 3 objectInit ∈ wsL_law := zsub_3 _ (List.mem_of_getElem? (i := 22) rfl)
theorem qf_RX4_9 : Cond.fieldLink RX4 9 "MeshTurns$Routes" "eastIsFirst" "Z" ∈ wsL_law := zsub_3 _ (List.mem_of_getElem? (i := 23) rfl)
theorem qf_RX4_15 : Cond.fieldLink RX4 15 "MeshTurns$Routes" "open" "[I" ∈ wsL_law := zsub_4 _ (List.mem_of_getElem? (i := 0) rfl)
theorem qf_RX4_19 : Cond.fieldLink RX4 19 "MeshTurns$Routes" "lengths" "[I" ∈ wsL_law := zsub_4 _ (List.mem_of_getElem? (i := 1) rfl)
theorem qf_RX4_22 : Cond.fieldLink RX4 22 "MeshTurns$Routes" "numbers" "[I" ∈ wsL_law := zsub_4 _ (List.mem_of_getElem? (i := 2) rfl)
theorem qf_RX4_25 : Cond.fieldLink RX4 25 "MeshTurns$Routes" "queue" "[I" ∈ wsL_law := zsub_4 _ (List.mem_of_getElem? (i := 3) rfl)
theorem qf_RX4_28 : Cond.fieldLink RX4 28 "MeshTurns$Routes" "queued" "I" ∈ wsL_law := zsub_4 _ (List.mem_of_getElem? (i := 4) rfl)
theorem qi_X1_init : Cond.instanceMethod yX1_init ∈ wsL_law := zsub_4 _ (List.mem_of_getElem? (i := 5) rfl)
theorem qc_X1_init : Cond.code yX1_init cX1_init 1 none ∈ wsL_law := zsub_4 _ (List.mem_of_getElem? (i := 6) rfl)
theorem qm_RX1_3 : Cond.methodLink RX1 3 objectInit ∈ wsL_law := zsub_4 _ (List.mem_of_getElem? (i := 7) rfl)
theorem qf_RX1_9 : Cond.fieldLink RX1 9 "MeshTurns$Jam" "stuck" "[Z" ∈ wsL_law := zsub_4 _ (List.mem_of_getElem? (i := 8) rfl)
theorem qi_X3_init : Cond.instanceMethod yX3_init ∈ wsL_law := zsub_4 _ (List.mem_of_getElem? (i := 9) rfl)
theorem qc_X3_init : Cond.code yX3_init cX3_init 1 none ∈ wsL_law := zsub_4 _ (List.mem_of_getElem? (i := 10) rfl)
theorem qm_RX3_5 : Cond.methodLink RX3 5 objectInit ∈ wsL_law := zsub_4 _ (List.mem_of_getElem? (i := 11) rfl)
theorem qa__char : Cond.arrayClass .char ∈ wsL_law := zsub_4 _ (List.mem_of_getElem? (i := 12) rfl)
theorem qf_RX3_11 : Cond.fieldLink RX3 11 "MeshTurns$Pad" "signs" "[C" ∈ wsL_law := zsub_4 _ (List.mem_of_getElem? (i := 13) rfl)
theorem qf_RX3_15 : Cond.fieldLink RX3 15 "MeshTurns$Pad" "length" "I" ∈ wsL_law := zsub_4 _ (List.mem_of_getElem? (i := 14) rfl)
theorem qf_RX3_19 : Cond.fieldLink RX3 19 "MeshTurns$Pad" "orders" "I" ∈ wsL_law := zsub_4 _ (List.mem_of_getElem? (i := 15) rfl)
theorem qf_RX3_22 : Cond.fieldLink RX3 22 "MeshTurns$Pad" "kinds" "[I" ∈ wsL_law := zsub_4 _ (List.mem_of_getElem? (i := 16) rfl)
theorem qf_RX3_26 : Cond.fieldLink RX3 26 "MeshTurns$Pad" "firsts" "[I" ∈ wsL_law := zsub_4 _ (List.mem_of_getElem? (i := 17) rfl)
theorem qf_RX3_29 : Cond.fieldLink RX3 29 "MeshTurns$Pad" "seconds" "[I" ∈ wsL_law := zsub_4 _ (List.mem_of_getElem? (i := 18) rfl)
theorem qf_RX3_32 : Cond.fieldLink RX3 32 "MeshTurns$Pad" "place" "I" ∈ wsL_law := zsub_4 _ (List.mem_of_getElem? (i := 19) rfl)
theorem qm_RX6_58 : Cond.methodLink RX6 58 yX6_learnRoutes ∈ wsL_law := zsub_4 _ (List.mem_of_getElem? (i := 20) rfl)
theorem qi_X6_learnRoutes : Cond.instanceMethod yX6_learnRoutes ∈ wsL_law := zsub_4 _ (List.mem_of_getElem? (i := 21) rfl)
theorem qs_X6_learnRoutes : Cond.selects RX6 yX6_learnRoutes yX6_learnRoutes ∈ wsL_law := zsub_4 _ (List.mem_of_getElem? (i := 22) rfl)
theorem qc_X6_learnRoutes : Cond.code yX6_learnRoutes cX6_learnRoutes 1 none ∈ wsL_law := zsub_4 _ (List.mem_of_getElem? (i := 23) rfl)
theorem qf_RX6_88 : Cond.fieldLink RX6 88 "MeshTurns$State" "grid" "LMeshTurns$Grid;" ∈ wsL_law := zsub_5 _ (List.mem_of_getElem? (i := 0) rfl)
theorem qf_RX6_71 : Cond.fieldLink RX6 71 "MeshTurns$State" "settings" "[I" ∈ wsL_law := zsub_5 _ (List.mem_of_getElem? (i := 1) rfl)
theorem qm_RX6_257 : Cond.methodLink RX6 257 yX4_learn ∈ wsL_law := zsub_5 _ (List.mem_of_getElem? (i := 2) rfl)
theorem qi_X4_learn : Cond.instanceMethod yX4_learn ∈ wsL_law := zsub_5 _ (List.mem_of_getElem? (i := 3) rfl)
theorem qs_X4_learn : Cond.selects RX4 yX4_learn yX4_learn ∈ wsL_law := zsub_5 _ (List.mem_of_getElem? (i := 4) rfl)
theorem qc_X4_learn : Cond.code yX4_learn cX4_learn 8 none ∈ wsL_law := zsub_5 _ (List.mem_of_getElem? (i := 5) rfl)
theorem qm_RX4_32 : Cond.methodLink RX4 32 yX0_boxes ∈ wsL_law := zsub_5 _ (List.mem_of_getElem? (i := 6) rfl)
theorem qi_X0_boxes : Cond.instanceMethod yX0_boxes ∈ wsL_law := zsub_5 _ (List.mem_of_getElem? (i := 7) rfl)
theorem qs_X0_boxes : Cond.selects RX0 yX0_boxes yX0_boxes ∈ wsL_law := zsub_5 _ (List.mem_of_getElem? (i := 8) rfl)
theorem qc_X0_boxes : Cond.code yX0_boxes cX0_boxes 1 (some .int) ∈ wsL_law := zsub_5 _ (List.mem_of_getElem? (i := 9) rfl)
theorem qm_RX4_38 : Cond.methodLink RX4 38 yX0_linkAt ∈ wsL_law := zsub_5 _ (List.mem_of_getElem? (i := 10) rfl)
theorem qi_X0_linkAt : Cond.instanceMethod yX0_linkAt ∈ wsL_law := zsub_5 _ (List.mem_of_getElem? (i := 11) rfl)
theorem qs_X0_linkAt : Cond.selects RX0 yX0_linkAt yX0_linkAt ∈ wsL_law := zsub_5 _ (List.mem_of_getElem? (i := 12) rfl)
theorem qc_X0_linkAt : Cond.code yX0_linkAt cX0_linkAt 4 (some .int) ∈ wsL_law := zsub_5 _ (List.mem_of_getElem? (i := 13) rfl)
theorem qm_RX0_32 : Cond.methodLink RX0 32 Lib.Math.min.name ∈ wsL_law := zsub_5 _ (List.mem_of_getElem? (i := 14) rfl)
theorem qt_Math_min : Cond.static Lib.Math.min.name ∈ wsL_law := zsub_5 _ (List.mem_of_getElem? (i := 15) rfl)
theorem qn_java_lang_Math : Cond.initialized "java/lang/Math" ∈ wsL_law := zsub_5 _ (List.mem_of_getElem? (i := 16) rfl)
theorem qc_Math_min : Cond.code Lib.Math.min.name Lib.Math.min.code 2 (some .int) ∈ wsL_law := zsub_5 _ (List.mem_of_getElem? (i := 17) rfl)
theorem qm_RX0_28 : Cond.methodLink RX0 28 yX0_beside ∈ wsL_law := zsub_5 _ (List.mem_of_getElem? (i := 18) rfl)
theorem qi_X0_beside : Cond.instanceMethod yX0_beside ∈ wsL_law := zsub_5 _ (List.mem_of_getElem? (i := 19) rfl)
theorem qs_X0_beside : Cond.selects RX0 yX0_beside yX0_beside ∈ wsL_law := zsub_5 _ (List.mem_of_getElem? (i := 20) rfl)
theorem qc_X0_beside : Cond.code yX0_beside cX0_beside 5 (some .int) ∈ wsL_law := zsub_5 _ (List.mem_of_getElem? (i := 21) rfl)
theorem qm_RX4_42 : Cond.methodLink RX4 42 yX0_isWhole ∈ wsL_law := zsub_5 _ (List.mem_of_getElem? (i := 22) rfl)
theorem qi_X0_isWhole : Cond.instanceMethod yX0_isWhole ∈ wsL_law := zsub_5 _ (List.mem_of_getElem? (i := 23) rfl)
theorem qs_X0_isWhole : Cond.selects RX0 yX0_isWhole yX0_isWhole ∈ wsL_law := zsub_6 _ (List.mem_of_getElem? (i := 0) rfl)
theorem qc_X0_isWhole : Cond.code yX0_isWhole cX0_isWhole 2 (some .boolean) ∈ wsL_law := zsub_6 _ (List.mem_of_getElem? (i := 1) rfl)
theorem qm_RX4_46 : Cond.methodLink RX4 46 yX0_beside ∈ wsL_law := zsub_6 _ (List.mem_of_getElem? (i := 2) rfl)
theorem qm_RX4_49 : Cond.methodLink RX4 49 yX4_search ∈ wsL_law := zsub_6 _ (List.mem_of_getElem? (i := 3) rfl)
theorem qi_X4_search : Cond.instanceMethod yX4_search ∈ wsL_law := zsub_6 _ (List.mem_of_getElem? (i := 4) rfl)
theorem qs_X4_search : Cond.selects RX4 yX4_search yX4_search ∈ wsL_law := zsub_6 _ (List.mem_of_getElem? (i := 5) rfl)
theorem qc_X4_search : Cond.code yX4_search cX4_search 3 none ∈ wsL_law := zsub_6 _ (List.mem_of_getElem? (i := 6) rfl)
theorem qm_RX4_53 : Cond.methodLink RX4 53 yX4_spot ∈ wsL_law := zsub_6 _ (List.mem_of_getElem? (i := 7) rfl)
theorem qt_X4_spot : Cond.static yX4_spot ∈ wsL_law := zsub_6 _ (List.mem_of_getElem? (i := 8) rfl)
theorem qc_X4_spot : Cond.code yX4_spot cX4_spot 2 (some .int) ∈ wsL_law := zsub_6 _ (List.mem_of_getElem? (i := 9) rfl)
theorem qm_RX4_67 : Cond.methodLink RX4 67 yX4_reach ∈ wsL_law := zsub_6 _ (List.mem_of_getElem? (i := 10) rfl)
theorem qi_X4_reach : Cond.instanceMethod yX4_reach ∈ wsL_law := zsub_6 _ (List.mem_of_getElem? (i := 11) rfl)
theorem qs_X4_reach : Cond.selects RX4 yX4_reach yX4_reach ∈ wsL_law := zsub_6 _ (List.mem_of_getElem? (i := 12) rfl)
theorem qc_X4_reach : Cond.code yX4_reach cX4_reach 6 none ∈ wsL_law := zsub_6 _ (List.mem_of_getElem? (i := 13) rfl)
theorem qm_RX4_71 : Cond.methodLink RX4 71 yX4_stepBack ∈ wsL_law := zsub_6 _ (List.mem_of_getElem? (i := 14) rfl)
theorem qi_X4_stepBack : Cond.instanceMethod yX4_stepBack ∈ wsL_law := zsub_6 _ (List.mem_of_getElem? (i := 15) rfl)
theorem qs_X4_stepBack : Cond.selects RX4 yX4_stepBack yX4_stepBack ∈ wsL_law := zsub_6 _ (List.mem_of_getElem? (i := 16) rfl)
theorem qc_X4_stepBack : Cond.code yX4_stepBack cX4_stepBack 9 none ∈ wsL_law := zsub_6 _ (List.mem_of_getElem? (i := 17) rfl)
theorem qm_RX4_56 : Cond.methodLink RX4 56 yX4_boxBehind ∈ wsL_law := zsub_6 _ (List.mem_of_getElem? (i := 18) rfl)
theorem qi_X4_boxBehind : Cond.instanceMethod yX4_boxBehind ∈ wsL_law := zsub_6 _ (List.mem_of_getElem? (i := 19) rfl)
theorem qs_X4_boxBehind : Cond.selects RX4 yX4_boxBehind yX4_boxBehind ∈ wsL_law := zsub_6 _ (List.mem_of_getElem? (i := 20) rfl)
theorem qc_X4_boxBehind : Cond.code yX4_boxBehind cX4_boxBehind 4 (some .int) ∈ wsL_law := zsub_6 _ (List.mem_of_getElem? (i := 21) rfl)
theorem qm_RX4_59 : Cond.methodLink RX4 59 yX4_mayMove ∈ wsL_law := zsub_6 _ (List.mem_of_getElem? (i := 22) rfl)
theorem qi_X4_mayMove : Cond.instanceMethod yX4_mayMove ∈ wsL_law := zsub_6 _ (List.mem_of_getElem? (i := 23) rfl)
theorem qs_X4_mayMove : Cond.selects RX4 yX4_mayMove yX4_mayMove ∈ wsL_law := zsub_7 _ (List.mem_of_getElem? (i := 0) rfl)
theorem qc_X4_mayMove : Cond.code yX4_mayMove cX4_mayMove 3 (some .boolean) ∈ wsL_law := zsub_7 _ (List.mem_of_getElem? (i := 1) rfl)
theorem qm_RX4_75 : Cond.methodLink RX4 75 yX4_opposite ∈ wsL_law := zsub_7 _ (List.mem_of_getElem? (i := 2) rfl)
theorem qt_X4_opposite : Cond.static yX4_opposite ∈ wsL_law := zsub_7 _ (List.mem_of_getElem? (i := 3) rfl)
theorem qc_X4_opposite : Cond.code yX4_opposite cX4_opposite 1 (some .int) ∈ wsL_law := zsub_7 _ (List.mem_of_getElem? (i := 4) rfl)
theorem qm_RL_60 : Cond.methodLink RL 60 yL_cell ∈ wsL_law := zsub_7 _ (List.mem_of_getElem? (i := 5) rfl)
theorem qt_L_cell : Cond.static yL_cell ∈ wsL_law := zsub_7 _ (List.mem_of_getElem? (i := 6) rfl)
theorem qn_RL : Cond.initialized RL ∈ wsL_law := zsub_7 _ (List.mem_of_getElem? (i := 7) rfl)
theorem qc_L_cell : Cond.code yL_cell cL_cell 3 (some .int) ∈ wsL_law := zsub_7 _ (List.mem_of_getElem? (i := 8) rfl)
theorem qo_RL_7 : Cond.constant RL 7 (4194303) ∈ wsL_law := zsub_7 _ (List.mem_of_getElem? (i := 9) rfl)
theorem qm_RL_34 : Cond.methodLink RL 34 yX6_mesh ∈ wsL_law := zsub_7 _ (List.mem_of_getElem? (i := 10) rfl)
theorem qi_X6_mesh : Cond.instanceMethod yX6_mesh ∈ wsL_law := zsub_7 _ (List.mem_of_getElem? (i := 11) rfl)
theorem qs_X6_mesh : Cond.selects RX6 yX6_mesh yX6_mesh ∈ wsL_law := zsub_7 _ (List.mem_of_getElem? (i := 12) rfl)
theorem qc_X6_mesh : Cond.code yX6_mesh cX6_mesh 3 (some .int) ∈ wsL_law := zsub_7 _ (List.mem_of_getElem? (i := 13) rfl)
theorem qf_RX6_79 : Cond.fieldLink RX6 79 "MeshTurns$State" "packets" "LMeshTurns$Packets;" ∈ wsL_law := zsub_7 _ (List.mem_of_getElem? (i := 14) rfl)
theorem qf_RX6_83 : Cond.fieldLink RX6 83 "MeshTurns$Packets" "sent" "I" ∈ wsL_law := zsub_7 _ (List.mem_of_getElem? (i := 15) rfl)
theorem qm_RX6_75 : Cond.methodLink RX6 75 yX6_isLine ∈ wsL_law := zsub_7 _ (List.mem_of_getElem? (i := 16) rfl)
theorem qt_X6_isLine : Cond.static yX6_isLine ∈ wsL_law := zsub_7 _ (List.mem_of_getElem? (i := 17) rfl)
theorem qc_X6_isLine : Cond.code yX6_isLine cX6_isLine 1 (some .boolean) ∈ wsL_law := zsub_7 _ (List.mem_of_getElem? (i := 18) rfl)
theorem qm_RX6_68 : Cond.methodLink RX6 68 yX6_recordState ∈ wsL_law := zsub_7 _ (List.mem_of_getElem? (i := 19) rfl)
theorem qi_X6_recordState : Cond.instanceMethod yX6_recordState ∈ wsL_law := zsub_7 _ (List.mem_of_getElem? (i := 20) rfl)
theorem qs_X6_recordState : Cond.selects RX6 yX6_recordState yX6_recordState ∈ wsL_law := zsub_7 _ (List.mem_of_getElem? (i := 21) rfl)
theorem qc_X6_recordState : Cond.code yX6_recordState cX6_recordState 1 none ∈ wsL_law := zsub_7 _ (List.mem_of_getElem? (i := 22) rfl)
theorem qm_RX6_280 : Cond.methodLink RX6 280 yX6_dropOldestState ∈ wsL_law := zsub_7 _ (List.mem_of_getElem? (i := 23) rfl)
theorem qi_X6_dropOldestState : Cond.instanceMethod yX6_dropOldestState ∈ wsL_law := zsub_8 _ (List.mem_of_getElem? (i := 0) rfl)
theorem qs_X6_dropOldestState : Cond.selects RX6 yX6_dropOldestState yX6_dropOldestState ∈ wsL_law := zsub_8 _ (List.mem_of_getElem? (i := 1) rfl)
theorem qc_X6_dropOldestState : Cond.code yX6_dropOldestState cX6_dropOldestState 3 none ∈ wsL_law := zsub_8 _ (List.mem_of_getElem? (i := 2) rfl)
theorem qm_RX6_224 : Cond.methodLink RX6 224 yX5_copyState ∈ wsL_law := zsub_8 _ (List.mem_of_getElem? (i := 3) rfl)
theorem qt_X5_copyState : Cond.static yX5_copyState ∈ wsL_law := zsub_8 _ (List.mem_of_getElem? (i := 4) rfl)
theorem qc_X5_copyState : Cond.code yX5_copyState cX5_copyState 2 none ∈ wsL_law := zsub_8 _ (List.mem_of_getElem? (i := 5) rfl)
theorem qm_RX5_39 : Cond.methodLink RX5 39 arraycopyName ∈ wsL_law := zsub_8 _ (List.mem_of_getElem? (i := 6) rfl)
theorem qv_arraycopyName : Cond.native arraycopyName ∈ wsL_law := zsub_8 _ (List.mem_of_getElem? (i := 7) rfl)
theorem qt_arraycopyName : Cond.static arraycopyName ∈ wsL_law := zsub_8 _ (List.mem_of_getElem? (i := 8) rfl)
theorem qn_java_lang_System : Cond.initialized "java/lang/System" ∈ wsL_law := zsub_8 _ (List.mem_of_getElem? (i := 9) rfl)
theorem qm_RX5_45 : Cond.methodLink RX5 45 yX0_copyGrid ∈ wsL_law := zsub_8 _ (List.mem_of_getElem? (i := 10) rfl)
theorem qi_X0_copyGrid : Cond.instanceMethod yX0_copyGrid ∈ wsL_law := zsub_8 _ (List.mem_of_getElem? (i := 11) rfl)
theorem qs_X0_copyGrid : Cond.selects RX0 yX0_copyGrid yX0_copyGrid ∈ wsL_law := zsub_8 _ (List.mem_of_getElem? (i := 12) rfl)
theorem qc_X0_copyGrid : Cond.code yX0_copyGrid cX0_copyGrid 2 none ∈ wsL_law := zsub_8 _ (List.mem_of_getElem? (i := 13) rfl)
theorem qm_RX5_49 : Cond.methodLink RX5 49 yX2_copyPackets ∈ wsL_law := zsub_8 _ (List.mem_of_getElem? (i := 14) rfl)
theorem qi_X2_copyPackets : Cond.instanceMethod yX2_copyPackets ∈ wsL_law := zsub_8 _ (List.mem_of_getElem? (i := 15) rfl)
theorem qs_X2_copyPackets : Cond.selects RX2 yX2_copyPackets yX2_copyPackets ∈ wsL_law := zsub_8 _ (List.mem_of_getElem? (i := 16) rfl)
theorem qc_X2_copyPackets : Cond.code yX2_copyPackets cX2_copyPackets 2 none ∈ wsL_law := zsub_8 _ (List.mem_of_getElem? (i := 17) rfl)
theorem qm_RX2_46 : Cond.methodLink RX2 46 arraycopyName ∈ wsL_law := zsub_8 _ (List.mem_of_getElem? (i := 18) rfl)
theorem qm_RX6_92 : Cond.methodLink RX6 92 yX0_layOut ∈ wsL_law := zsub_8 _ (List.mem_of_getElem? (i := 19) rfl)
theorem qi_X0_layOut : Cond.instanceMethod yX0_layOut ∈ wsL_law := zsub_8 _ (List.mem_of_getElem? (i := 20) rfl)
theorem qs_X0_layOut : Cond.selects RX0 yX0_layOut yX0_layOut ∈ wsL_law := zsub_8 _ (List.mem_of_getElem? (i := 21) rfl)
theorem qc_X0_layOut : Cond.code yX0_layOut cX0_layOut 3 none ∈ wsL_law := zsub_8 _ (List.mem_of_getElem? (i := 22) rfl)
theorem qm_RX6_98 : Cond.methodLink RX6 98 yX0_boxes ∈ wsL_law := zsub_8 _ (List.mem_of_getElem? (i := 23) rfl)
theorem qm_RL_8 : Cond.methodLink RL 8 yX6_count ∈ wsL_law := zsub_9 _ (List.mem_of_getElem? (i := 0) rfl)
theorem qi_X6_count : Cond.instanceMethod yX6_count ∈ wsL_law := zsub_9 _ (List.mem_of_getElem? (i := 1) rfl)
theorem qs_X6_count : Cond.selects RX6 yX6_count yX6_count ∈ wsL_law := zsub_9 _ (List.mem_of_getElem? (i := 2) rfl)
theorem qc_X6_count : Cond.code yX6_count cX6_count 3 (some .int) ∈ wsL_law := zsub_9 _ (List.mem_of_getElem? (i := 3) rfl)
theorem qf_RX6_113 : Cond.fieldLink RX6 113 "MeshTurns$State" "tick" "I" ∈ wsL_law := zsub_9 _ (List.mem_of_getElem? (i := 4) rfl)
theorem qf_RX6_181 : Cond.fieldLink RX6 181 "MeshTurns$Grid" "columns" "I" ∈ wsL_law := zsub_9 _ (List.mem_of_getElem? (i := 5) rfl)
theorem qf_RX6_141 : Cond.fieldLink RX6 141 "MeshTurns$Packets" "moves" "[I" ∈ wsL_law := zsub_9 _ (List.mem_of_getElem? (i := 6) rfl)
theorem qf_RX6_144 : Cond.fieldLink RX6 144 "MeshTurns$Packets" "detours" "[I" ∈ wsL_law := zsub_9 _ (List.mem_of_getElem? (i := 7) rfl)
theorem qf_RX6_147 : Cond.fieldLink RX6 147 "MeshTurns$Packets" "waits" "[I" ∈ wsL_law := zsub_9 _ (List.mem_of_getElem? (i := 8) rfl)
theorem qf_RX6_198 : Cond.fieldLink RX6 198 "MeshTurns$Pad" "length" "I" ∈ wsL_law := zsub_9 _ (List.mem_of_getElem? (i := 9) rfl)
theorem qm_RX6_184 : Cond.methodLink RX6 184 yX2_countIn ∈ wsL_law := zsub_9 _ (List.mem_of_getElem? (i := 10) rfl)
theorem qi_X2_countIn : Cond.instanceMethod yX2_countIn ∈ wsL_law := zsub_9 _ (List.mem_of_getElem? (i := 11) rfl)
theorem qs_X2_countIn : Cond.selects RX2 yX2_countIn yX2_countIn ∈ wsL_law := zsub_9 _ (List.mem_of_getElem? (i := 12) rfl)
theorem qc_X2_countIn : Cond.code yX2_countIn cX2_countIn 4 (some .int) ∈ wsL_law := zsub_9 _ (List.mem_of_getElem? (i := 13) rfl)
theorem qm_RX6_187 : Cond.methodLink RX6 187 yX2_sum ∈ wsL_law := zsub_9 _ (List.mem_of_getElem? (i := 14) rfl)
theorem qi_X2_sum : Cond.instanceMethod yX2_sum ∈ wsL_law := zsub_9 _ (List.mem_of_getElem? (i := 15) rfl)
theorem qs_X2_sum : Cond.selects RX2 yX2_sum yX2_sum ∈ wsL_law := zsub_9 _ (List.mem_of_getElem? (i := 16) rfl)
theorem qc_X2_sum : Cond.code yX2_sum cX2_sum 4 (some .int) ∈ wsL_law := zsub_9 _ (List.mem_of_getElem? (i := 17) rfl)
theorem qm_RX6_191 : Cond.methodLink RX6 191 yX1_size ∈ wsL_law := zsub_9 _ (List.mem_of_getElem? (i := 18) rfl)
theorem qi_X1_size : Cond.instanceMethod yX1_size ∈ wsL_law := zsub_9 _ (List.mem_of_getElem? (i := 19) rfl)
theorem qs_X1_size : Cond.selects RX1 yX1_size yX1_size ∈ wsL_law := zsub_9 _ (List.mem_of_getElem? (i := 20) rfl)
theorem qc_X1_size : Cond.code yX1_size cX1_size 5 (some .int) ∈ wsL_law := zsub_9 _ (List.mem_of_getElem? (i := 21) rfl)
theorem qf_RX1_19 : Cond.fieldLink RX1 19 "MeshTurns$State" "packets" "LMeshTurns$Packets;" ∈ wsL_law := zsub_9 _ (List.mem_of_getElem? (i := 22) rfl)
theorem qf_RX1_31 : Cond.fieldLink RX1 31 "MeshTurns$Packets" "sent" "I" ∈ wsL_law := zsub_9 _ (List.mem_of_getElem? (i := 23) rfl)
theorem qm_RX1_15 : Cond.methodLink RX1 15 yX1_find ∈ wsL_law := zsub_10 _ (List.mem_of_getElem? (i := 0) rfl)
theorem qi_X1_find : Cond.instanceMethod yX1_find ∈ wsL_law := zsub_10 _ (List.mem_of_getElem? (i := 1) rfl)
theorem qs_X1_find : Cond.selects RX1 yX1_find yX1_find ∈ wsL_law := zsub_10 _ (List.mem_of_getElem? (i := 2) rfl)
theorem qc_X1_find : Cond.code yX1_find cX1_find 7 none ∈ wsL_law := zsub_10 _ (List.mem_of_getElem? (i := 3) rfl)
theorem qf_RX1_35 : Cond.fieldLink RX1 35 "MeshTurns$Packets" "place" "[I" ∈ wsL_law := zsub_10 _ (List.mem_of_getElem? (i := 4) rfl)
theorem qm_RX1_39 : Cond.methodLink RX1 39 yX1_canGoOn ∈ wsL_law := zsub_10 _ (List.mem_of_getElem? (i := 5) rfl)
theorem qi_X1_canGoOn : Cond.instanceMethod yX1_canGoOn ∈ wsL_law := zsub_10 _ (List.mem_of_getElem? (i := 6) rfl)
theorem qs_X1_canGoOn : Cond.selects RX1 yX1_canGoOn yX1_canGoOn ∈ wsL_law := zsub_10 _ (List.mem_of_getElem? (i := 7) rfl)
theorem qc_X1_canGoOn : Cond.code yX1_canGoOn cX1_canGoOn 6 (some .boolean) ∈ wsL_law := zsub_10 _ (List.mem_of_getElem? (i := 8) rfl)
theorem qf_RX1_47 : Cond.fieldLink RX1 47 "MeshTurns$Packets" "box" "[I" ∈ wsL_law := zsub_10 _ (List.mem_of_getElem? (i := 9) rfl)
theorem qm_RX1_43 : Cond.methodLink RX1 43 yX5_isPossible ∈ wsL_law := zsub_10 _ (List.mem_of_getElem? (i := 10) rfl)
theorem qi_X5_isPossible : Cond.instanceMethod yX5_isPossible ∈ wsL_law := zsub_10 _ (List.mem_of_getElem? (i := 11) rfl)
theorem qs_X5_isPossible : Cond.selects RX5 yX5_isPossible yX5_isPossible ∈ wsL_law := zsub_10 _ (List.mem_of_getElem? (i := 12) rfl)
theorem qc_X5_isPossible : Cond.code yX5_isPossible cX5_isPossible 4 (some .boolean) ∈ wsL_law := zsub_10 _ (List.mem_of_getElem? (i := 13) rfl)
theorem qf_RX5_63 : Cond.fieldLink RX5 63 "MeshTurns$Packets" "box" "[I" ∈ wsL_law := zsub_10 _ (List.mem_of_getElem? (i := 14) rfl)
theorem qf_RX5_66 : Cond.fieldLink RX5 66 "MeshTurns$Packets" "turned" "[I" ∈ wsL_law := zsub_10 _ (List.mem_of_getElem? (i := 15) rfl)
theorem qf_RX5_69 : Cond.fieldLink RX5 69 "MeshTurns$Packets" "to" "[I" ∈ wsL_law := zsub_10 _ (List.mem_of_getElem? (i := 16) rfl)
theorem qm_RX5_84 : Cond.methodLink RX5 84 yX4_lengthAfter ∈ wsL_law := zsub_10 _ (List.mem_of_getElem? (i := 17) rfl)
theorem qi_X4_lengthAfter : Cond.instanceMethod yX4_lengthAfter ∈ wsL_law := zsub_10 _ (List.mem_of_getElem? (i := 18) rfl)
theorem qs_X4_lengthAfter : Cond.selects RX4 yX4_lengthAfter yX4_lengthAfter ∈ wsL_law := zsub_10 _ (List.mem_of_getElem? (i := 19) rfl)
theorem qc_X4_lengthAfter : Cond.code yX4_lengthAfter cX4_lengthAfter 6 (some .int) ∈ wsL_law := zsub_10 _ (List.mem_of_getElem? (i := 20) rfl)
theorem qm_RX4_63 : Cond.methodLink RX4 63 yX4_length ∈ wsL_law := zsub_10 _ (List.mem_of_getElem? (i := 21) rfl)
theorem qi_X4_length : Cond.instanceMethod yX4_length ∈ wsL_law := zsub_10 _ (List.mem_of_getElem? (i := 22) rfl)
theorem qs_X4_length : Cond.selects RX4 yX4_length yX4_length ∈ wsL_law := zsub_10 _ (List.mem_of_getElem? (i := 23) rfl)
theorem qc_X4_length : Cond.code yX4_length cX4_length 5 (some .int) ∈ wsL_law := zsub_11 _ (List.mem_of_getElem? (i := 0) rfl)
theorem qm_RX5_72 : Cond.methodLink RX5 72 yX5_mostMoves ∈ wsL_law := zsub_11 _ (List.mem_of_getElem? (i := 1) rfl)
theorem qi_X5_mostMoves : Cond.instanceMethod yX5_mostMoves ∈ wsL_law := zsub_11 _ (List.mem_of_getElem? (i := 2) rfl)
theorem qs_X5_mostMoves : Cond.selects RX5 yX5_mostMoves yX5_mostMoves ∈ wsL_law := zsub_11 _ (List.mem_of_getElem? (i := 3) rfl)
theorem qc_X5_mostMoves : Cond.code yX5_mostMoves cX5_mostMoves 3 (some .int) ∈ wsL_law := zsub_11 _ (List.mem_of_getElem? (i := 4) rfl)
theorem qf_RX5_76 : Cond.fieldLink RX5 76 "MeshTurns$Packets" "detours" "[I" ∈ wsL_law := zsub_11 _ (List.mem_of_getElem? (i := 5) rfl)
theorem qm_RX5_79 : Cond.methodLink RX5 79 Lib.Math.max.name ∈ wsL_law := zsub_11 _ (List.mem_of_getElem? (i := 6) rfl)
theorem qt_Math_max : Cond.static Lib.Math.max.name ∈ wsL_law := zsub_11 _ (List.mem_of_getElem? (i := 7) rfl)
theorem qc_Math_max : Cond.code Lib.Math.max.name Lib.Math.max.code 2 (some .int) ∈ wsL_law := zsub_11 _ (List.mem_of_getElem? (i := 8) rfl)
theorem qm_RX5_59 : Cond.methodLink RX5 59 yX0_distance ∈ wsL_law := zsub_11 _ (List.mem_of_getElem? (i := 9) rfl)
theorem qi_X0_distance : Cond.instanceMethod yX0_distance ∈ wsL_law := zsub_11 _ (List.mem_of_getElem? (i := 10) rfl)
theorem qs_X0_distance : Cond.selects RX0 yX0_distance yX0_distance ∈ wsL_law := zsub_11 _ (List.mem_of_getElem? (i := 11) rfl)
theorem qc_X0_distance : Cond.code yX0_distance cX0_distance 3 (some .int) ∈ wsL_law := zsub_11 _ (List.mem_of_getElem? (i := 12) rfl)
theorem qm_RX0_22 : Cond.methodLink RX0 22 Lib.Math.abs.name ∈ wsL_law := zsub_11 _ (List.mem_of_getElem? (i := 13) rfl)
theorem qt_Math_abs : Cond.static Lib.Math.abs.name ∈ wsL_law := zsub_11 _ (List.mem_of_getElem? (i := 14) rfl)
theorem qc_Math_abs : Cond.code Lib.Math.abs.name Lib.Math.abs.code 1 (some .int) ∈ wsL_law := zsub_11 _ (List.mem_of_getElem? (i := 15) rfl)
theorem qm_RX1_50 : Cond.methodLink RX1 50 yX4_boxBehind ∈ wsL_law := zsub_11 _ (List.mem_of_getElem? (i := 16) rfl)
theorem qm_RX1_56 : Cond.methodLink RX1 56 yX5_letsIn ∈ wsL_law := zsub_11 _ (List.mem_of_getElem? (i := 17) rfl)
theorem qi_X5_letsIn : Cond.instanceMethod yX5_letsIn ∈ wsL_law := zsub_11 _ (List.mem_of_getElem? (i := 18) rfl)
theorem qs_X5_letsIn : Cond.selects RX5 yX5_letsIn yX5_letsIn ∈ wsL_law := zsub_11 _ (List.mem_of_getElem? (i := 19) rfl)
theorem qc_X5_letsIn : Cond.code yX5_letsIn cX5_letsIn 3 (some .boolean) ∈ wsL_law := zsub_11 _ (List.mem_of_getElem? (i := 20) rfl)
theorem qm_RX5_98 : Cond.methodLink RX5 98 yX5_hasRoom ∈ wsL_law := zsub_11 _ (List.mem_of_getElem? (i := 21) rfl)
theorem qi_X5_hasRoom : Cond.instanceMethod yX5_hasRoom ∈ wsL_law := zsub_11 _ (List.mem_of_getElem? (i := 22) rfl)
theorem qs_X5_hasRoom : Cond.selects RX5 yX5_hasRoom yX5_hasRoom ∈ wsL_law := zsub_11 _ (List.mem_of_getElem? (i := 23) rfl)
theorem qc_X5_hasRoom : Cond.code yX5_hasRoom cX5_hasRoom 2 (some .boolean) ∈ wsL_law := zsub_12 _ (List.mem_of_getElem? (i := 0) rfl)
theorem qm_RX1_60 : Cond.methodLink RX1 60 yX1_hasFreePacket ∈ wsL_law := zsub_12 _ (List.mem_of_getElem? (i := 1) rfl)
theorem qi_X1_hasFreePacket : Cond.instanceMethod yX1_hasFreePacket ∈ wsL_law := zsub_12 _ (List.mem_of_getElem? (i := 2) rfl)
theorem qs_X1_hasFreePacket : Cond.selects RX1 yX1_hasFreePacket yX1_hasFreePacket ∈ wsL_law := zsub_12 _ (List.mem_of_getElem? (i := 3) rfl)
theorem qc_X1_hasFreePacket : Cond.code yX1_hasFreePacket cX1_hasFreePacket 4 (some .boolean) ∈ wsL_law := zsub_12 _ (List.mem_of_getElem? (i := 4) rfl)
theorem qm_RX6_195 : Cond.methodLink RX6 195 yX0_brokenLinks ∈ wsL_law := zsub_12 _ (List.mem_of_getElem? (i := 5) rfl)
theorem qi_X0_brokenLinks : Cond.instanceMethod yX0_brokenLinks ∈ wsL_law := zsub_12 _ (List.mem_of_getElem? (i := 6) rfl)
theorem qs_X0_brokenLinks : Cond.selects RX0 yX0_brokenLinks yX0_brokenLinks ∈ wsL_law := zsub_12 _ (List.mem_of_getElem? (i := 7) rfl)
theorem qc_X0_brokenLinks : Cond.code yX0_brokenLinks cX0_brokenLinks 1 (some .int) ∈ wsL_law := zsub_12 _ (List.mem_of_getElem? (i := 8) rfl)
theorem qm_RX0_43 : Cond.methodLink RX0 43 yJ13_bitCount_95d88 ∈ wsL_law := zsub_12 _ (List.mem_of_getElem? (i := 9) rfl)
theorem qt_J13_bitCount_95d88 : Cond.static yJ13_bitCount_95d88 ∈ wsL_law := zsub_12 _ (List.mem_of_getElem? (i := 10) rfl)
theorem qn_RJ13 : Cond.initialized RJ13 ∈ wsL_law := zsub_12 _ (List.mem_of_getElem? (i := 11) rfl)
theorem qc_J13_bitCount_95d88 : Cond.code yJ13_bitCount_95d88 cJ13_bitCount_95d88 2 (some .int) ∈ wsL_law := zsub_12 _ (List.mem_of_getElem? (i := 12) rfl)
theorem ql_RJ13_314 : Cond.constantLong RJ13 314 (6148914691236517205) ∈ wsL_law := zsub_12 _ (List.mem_of_getElem? (i := 13) rfl)
theorem ql_RJ13_316 : Cond.constantLong RJ13 316 (3689348814741910323) ∈ wsL_law := zsub_12 _ (List.mem_of_getElem? (i := 14) rfl)
theorem ql_RJ13_318 : Cond.constantLong RJ13 318 (1085102592571150095) ∈ wsL_law := zsub_12 _ (List.mem_of_getElem? (i := 15) rfl)
theorem qm_RL_37 : Cond.methodLink RL 37 yX6_set ∈ wsL_law := zsub_12 _ (List.mem_of_getElem? (i := 16) rfl)
theorem qi_X6_set : Cond.instanceMethod yX6_set ∈ wsL_law := zsub_12 _ (List.mem_of_getElem? (i := 17) rfl)
theorem qs_X6_set : Cond.selects RX6 yX6_set yX6_set ∈ wsL_law := zsub_12 _ (List.mem_of_getElem? (i := 18) rfl)
theorem qc_X6_set : Cond.code yX6_set cX6_set 4 (some .int) ∈ wsL_law := zsub_12 _ (List.mem_of_getElem? (i := 19) rfl)
theorem qm_RX6_61 : Cond.methodLink RX6 61 yX6_leastOfSetting ∈ wsL_law := zsub_12 _ (List.mem_of_getElem? (i := 20) rfl)
theorem qt_X6_leastOfSetting : Cond.static yX6_leastOfSetting ∈ wsL_law := zsub_12 _ (List.mem_of_getElem? (i := 21) rfl)
theorem qc_X6_leastOfSetting : Cond.code yX6_leastOfSetting cX6_leastOfSetting 1 (some .int) ∈ wsL_law := zsub_12 _ (List.mem_of_getElem? (i := 22) rfl)
theorem qm_RX6_65 : Cond.methodLink RX6 65 yX6_mostOfSetting ∈ wsL_law := zsub_12 _ (List.mem_of_getElem? (i := 23) rfl)
theorem qt_X6_mostOfSetting : Cond.static yX6_mostOfSetting ∈ wsL_law := zsub_13 _ (List.mem_of_getElem? (i := 0) rfl)
theorem qc_X6_mostOfSetting : Cond.code yX6_mostOfSetting cX6_mostOfSetting 1 (some .int) ∈ wsL_law := zsub_13 _ (List.mem_of_getElem? (i := 1) rfl)
theorem qm_RL_68 : Cond.methodLink RL 68 yL_isLink ∈ wsL_law := zsub_13 _ (List.mem_of_getElem? (i := 2) rfl)
theorem qt_L_isLink : Cond.static yL_isLink ∈ wsL_law := zsub_13 _ (List.mem_of_getElem? (i := 3) rfl)
theorem qc_L_isLink : Cond.code yL_isLink cL_isLink 8 (some .boolean) ∈ wsL_law := zsub_13 _ (List.mem_of_getElem? (i := 4) rfl)
theorem qm_RL_24 : Cond.methodLink RL 24 yX6_ofBox ∈ wsL_law := zsub_13 _ (List.mem_of_getElem? (i := 5) rfl)
theorem qi_X6_ofBox : Cond.instanceMethod yX6_ofBox ∈ wsL_law := zsub_13 _ (List.mem_of_getElem? (i := 6) rfl)
theorem qs_X6_ofBox : Cond.selects RX6 yX6_ofBox yX6_ofBox ∈ wsL_law := zsub_13 _ (List.mem_of_getElem? (i := 7) rfl)
theorem qc_X6_ofBox : Cond.code yX6_ofBox cX6_ofBox 3 (some .int) ∈ wsL_law := zsub_13 _ (List.mem_of_getElem? (i := 8) rfl)
theorem qf_RX6_178 : Cond.fieldLink RX6 178 "MeshTurns$State" "movesFrom" "[I" ∈ wsL_law := zsub_13 _ (List.mem_of_getElem? (i := 9) rfl)
theorem qm_RX6_171 : Cond.methodLink RX6 171 yX0_has ∈ wsL_law := zsub_13 _ (List.mem_of_getElem? (i := 10) rfl)
theorem qi_X0_has : Cond.instanceMethod yX0_has ∈ wsL_law := zsub_13 _ (List.mem_of_getElem? (i := 11) rfl)
theorem qs_X0_has : Cond.selects RX0 yX0_has yX0_has ∈ wsL_law := zsub_13 _ (List.mem_of_getElem? (i := 12) rfl)
theorem qc_X0_has : Cond.code yX0_has cX0_has 2 (some .boolean) ∈ wsL_law := zsub_13 _ (List.mem_of_getElem? (i := 13) rfl)
theorem qm_RX6_172 : Cond.methodLink RX6 172 yX2_countAt ∈ wsL_law := zsub_13 _ (List.mem_of_getElem? (i := 14) rfl)
theorem qi_X2_countAt : Cond.instanceMethod yX2_countAt ∈ wsL_law := zsub_13 _ (List.mem_of_getElem? (i := 15) rfl)
theorem qs_X2_countAt : Cond.selects RX2 yX2_countAt yX2_countAt ∈ wsL_law := zsub_13 _ (List.mem_of_getElem? (i := 16) rfl)
theorem qc_X2_countAt : Cond.code yX2_countAt cX2_countAt 5 (some .int) ∈ wsL_law := zsub_13 _ (List.mem_of_getElem? (i := 17) rfl)
theorem qm_RX6_175 : Cond.methodLink RX6 175 yX6_linkState ∈ wsL_law := zsub_13 _ (List.mem_of_getElem? (i := 18) rfl)
theorem qi_X6_linkState : Cond.instanceMethod yX6_linkState ∈ wsL_law := zsub_13 _ (List.mem_of_getElem? (i := 19) rfl)
theorem qs_X6_linkState : Cond.selects RX6 yX6_linkState yX6_linkState ∈ wsL_law := zsub_13 _ (List.mem_of_getElem? (i := 20) rfl)
theorem qc_X6_linkState : Cond.code yX6_linkState cX6_linkState 4 (some .int) ∈ wsL_law := zsub_13 _ (List.mem_of_getElem? (i := 21) rfl)
theorem qm_RX6_261 : Cond.methodLink RX6 261 yX0_linkAt ∈ wsL_law := zsub_13 _ (List.mem_of_getElem? (i := 22) rfl)
theorem qm_RX6_264 : Cond.methodLink RX6 264 yX0_isWhole ∈ wsL_law := zsub_13 _ (List.mem_of_getElem? (i := 23) rfl)
theorem qm_RL_56 : Cond.methodLink RL 56 yX6_pairs ∈ wsL_law := zsub_14 _ (List.mem_of_getElem? (i := 0) rfl)
theorem qi_X6_pairs : Cond.instanceMethod yX6_pairs ∈ wsL_law := zsub_14 _ (List.mem_of_getElem? (i := 1) rfl)
theorem qs_X6_pairs : Cond.selects RX6 yX6_pairs yX6_pairs ∈ wsL_law := zsub_14 _ (List.mem_of_getElem? (i := 2) rfl)
theorem qc_X6_pairs : Cond.code yX6_pairs cX6_pairs 1 (some .int) ∈ wsL_law := zsub_14 _ (List.mem_of_getElem? (i := 3) rfl)
theorem qm_RX6_208 : Cond.methodLink RX6 208 yX5_connectedPairs ∈ wsL_law := zsub_14 _ (List.mem_of_getElem? (i := 4) rfl)
theorem qi_X5_connectedPairs : Cond.instanceMethod yX5_connectedPairs ∈ wsL_law := zsub_14 _ (List.mem_of_getElem? (i := 5) rfl)
theorem qs_X5_connectedPairs : Cond.selects RX5 yX5_connectedPairs yX5_connectedPairs ∈ wsL_law := zsub_14 _ (List.mem_of_getElem? (i := 6) rfl)
theorem qc_X5_connectedPairs : Cond.code yX5_connectedPairs cX5_connectedPairs 6 (some .int) ∈ wsL_law := zsub_14 _ (List.mem_of_getElem? (i := 7) rfl)
theorem qm_RX5_102 : Cond.methodLink RX5 102 yX0_boxes ∈ wsL_law := zsub_14 _ (List.mem_of_getElem? (i := 8) rfl)
theorem qm_RX5_106 : Cond.methodLink RX5 106 yX5_wayLength ∈ wsL_law := zsub_14 _ (List.mem_of_getElem? (i := 9) rfl)
theorem qi_X5_wayLength : Cond.instanceMethod yX5_wayLength ∈ wsL_law := zsub_14 _ (List.mem_of_getElem? (i := 10) rfl)
theorem qs_X5_wayLength : Cond.selects RX5 yX5_wayLength yX5_wayLength ∈ wsL_law := zsub_14 _ (List.mem_of_getElem? (i := 11) rfl)
theorem qc_X5_wayLength : Cond.code yX5_wayLength cX5_wayLength 5 (some .int) ∈ wsL_law := zsub_14 _ (List.mem_of_getElem? (i := 12) rfl)
theorem qm_RX5_53 : Cond.methodLink RX5 53 yX4_length ∈ wsL_law := zsub_14 _ (List.mem_of_getElem? (i := 13) rfl)
theorem qm_RL_40 : Cond.methodLink RL 40 yX6_link ∈ wsL_law := zsub_14 _ (List.mem_of_getElem? (i := 14) rfl)
theorem qi_X6_link : Cond.instanceMethod yX6_link ∈ wsL_law := zsub_14 _ (List.mem_of_getElem? (i := 15) rfl)
theorem qs_X6_link : Cond.selects RX6 yX6_link yX6_link ∈ wsL_law := zsub_14 _ (List.mem_of_getElem? (i := 16) rfl)
theorem qc_X6_link : Cond.code yX6_link cX6_link 5 (some .int) ∈ wsL_law := zsub_14 _ (List.mem_of_getElem? (i := 17) rfl)
theorem qm_RX6_102 : Cond.methodLink RX6 102 yX6_linkError ∈ wsL_law := zsub_14 _ (List.mem_of_getElem? (i := 18) rfl)
theorem qi_X6_linkError : Cond.instanceMethod yX6_linkError ∈ wsL_law := zsub_14 _ (List.mem_of_getElem? (i := 19) rfl)
theorem qs_X6_linkError : Cond.selects RX6 yX6_linkError yX6_linkError ∈ wsL_law := zsub_14 _ (List.mem_of_getElem? (i := 20) rfl)
theorem qc_X6_linkError : Cond.code yX6_linkError cX6_linkError 4 (some .int) ∈ wsL_law := zsub_14 _ (List.mem_of_getElem? (i := 21) rfl)
theorem qm_RX6_251 : Cond.methodLink RX6 251 yX6_isSide ∈ wsL_law := zsub_14 _ (List.mem_of_getElem? (i := 22) rfl)
theorem qt_X6_isSide : Cond.static yX6_isSide ∈ wsL_law := zsub_14 _ (List.mem_of_getElem? (i := 23) rfl)
theorem qc_X6_isSide : Cond.code yX6_isSide cX6_isSide 1 (some .boolean) ∈ wsL_law := zsub_15 _ (List.mem_of_getElem? (i := 0) rfl)
theorem qm_RX6_254 : Cond.methodLink RX6 254 yX0_beside ∈ wsL_law := zsub_15 _ (List.mem_of_getElem? (i := 1) rfl)
theorem qm_RX6_106 : Cond.methodLink RX6 106 yX6_changeLink ∈ wsL_law := zsub_15 _ (List.mem_of_getElem? (i := 2) rfl)
theorem qi_X6_changeLink : Cond.instanceMethod yX6_changeLink ∈ wsL_law := zsub_15 _ (List.mem_of_getElem? (i := 3) rfl)
theorem qs_X6_changeLink : Cond.selects RX6 yX6_changeLink yX6_changeLink ∈ wsL_law := zsub_15 _ (List.mem_of_getElem? (i := 4) rfl)
theorem qc_X6_changeLink : Cond.code yX6_changeLink cX6_changeLink 6 (some .int) ∈ wsL_law := zsub_15 _ (List.mem_of_getElem? (i := 5) rfl)
theorem qm_RX6_267 : Cond.methodLink RX6 267 yX0_makeWhole ∈ wsL_law := zsub_15 _ (List.mem_of_getElem? (i := 6) rfl)
theorem qi_X0_makeWhole : Cond.instanceMethod yX0_makeWhole ∈ wsL_law := zsub_15 _ (List.mem_of_getElem? (i := 7) rfl)
theorem qs_X0_makeWhole : Cond.selects RX0 yX0_makeWhole yX0_makeWhole ∈ wsL_law := zsub_15 _ (List.mem_of_getElem? (i := 8) rfl)
theorem qc_X0_makeWhole : Cond.code yX0_makeWhole cX0_makeWhole 5 none ∈ wsL_law := zsub_15 _ (List.mem_of_getElem? (i := 9) rfl)
theorem ql_RX0_41 : Cond.constantLong RX0 41 (-1) ∈ wsL_law := zsub_15 _ (List.mem_of_getElem? (i := 10) rfl)
theorem qm_RL_79 : Cond.methodLink RL 79 yL_isAct ∈ wsL_law := zsub_15 _ (List.mem_of_getElem? (i := 11) rfl)
theorem qt_L_isAct : Cond.static yL_isAct ∈ wsL_law := zsub_15 _ (List.mem_of_getElem? (i := 12) rfl)
theorem qc_L_isAct : Cond.code yL_isAct cL_isAct 7 (some .boolean) ∈ wsL_law := zsub_15 _ (List.mem_of_getElem? (i := 13) rfl)
theorem qm_RL_64 : Cond.methodLink RL 64 yL_isSent ∈ wsL_law := zsub_15 _ (List.mem_of_getElem? (i := 14) rfl)
theorem qt_L_isSent : Cond.static yL_isSent ∈ wsL_law := zsub_15 _ (List.mem_of_getElem? (i := 15) rfl)
theorem qc_L_isSent : Cond.code yL_isSent cL_isSent 6 (some .boolean) ∈ wsL_law := zsub_15 _ (List.mem_of_getElem? (i := 16) rfl)
theorem qm_RL_44 : Cond.methodLink RL 44 yX6_leastWay ∈ wsL_law := zsub_15 _ (List.mem_of_getElem? (i := 17) rfl)
theorem qi_X6_leastWay : Cond.instanceMethod yX6_leastWay ∈ wsL_law := zsub_15 _ (List.mem_of_getElem? (i := 18) rfl)
theorem qs_X6_leastWay : Cond.selects RX6 yX6_leastWay yX6_leastWay ∈ wsL_law := zsub_15 _ (List.mem_of_getElem? (i := 19) rfl)
theorem qc_X6_leastWay : Cond.code yX6_leastWay cX6_leastWay 3 (some .int) ∈ wsL_law := zsub_15 _ (List.mem_of_getElem? (i := 20) rfl)
theorem qm_RX6_201 : Cond.methodLink RX6 201 yX5_wayLength ∈ wsL_law := zsub_15 _ (List.mem_of_getElem? (i := 21) rfl)
theorem qm_RL_47 : Cond.methodLink RL 47 yX6_send ∈ wsL_law := zsub_15 _ (List.mem_of_getElem? (i := 22) rfl)
theorem qi_X6_send : Cond.instanceMethod yX6_send ∈ wsL_law := zsub_15 _ (List.mem_of_getElem? (i := 23) rfl)
theorem qs_X6_send : Cond.selects RX6 yX6_send yX6_send ∈ wsL_law := zsub_16 _ (List.mem_of_getElem? (i := 0) rfl)
theorem qc_X6_send : Cond.code yX6_send cX6_send 4 (some .int) ∈ wsL_law := zsub_16 _ (List.mem_of_getElem? (i := 1) rfl)
theorem qm_RX6_109 : Cond.methodLink RX6 109 yX6_sendError ∈ wsL_law := zsub_16 _ (List.mem_of_getElem? (i := 2) rfl)
theorem qi_X6_sendError : Cond.instanceMethod yX6_sendError ∈ wsL_law := zsub_16 _ (List.mem_of_getElem? (i := 3) rfl)
theorem qs_X6_sendError : Cond.selects RX6 yX6_sendError yX6_sendError ∈ wsL_law := zsub_16 _ (List.mem_of_getElem? (i := 4) rfl)
theorem qc_X6_sendError : Cond.code yX6_sendError cX6_sendError 3 (some .int) ∈ wsL_law := zsub_16 _ (List.mem_of_getElem? (i := 5) rfl)
theorem qm_RX6_116 : Cond.methodLink RX6 116 yX2_add ∈ wsL_law := zsub_16 _ (List.mem_of_getElem? (i := 6) rfl)
theorem qi_X2_add : Cond.instanceMethod yX2_add ∈ wsL_law := zsub_16 _ (List.mem_of_getElem? (i := 7) rfl)
theorem qs_X2_add : Cond.selects RX2 yX2_add yX2_add ∈ wsL_law := zsub_16 _ (List.mem_of_getElem? (i := 8) rfl)
theorem qc_X2_add : Cond.code yX2_add cX2_add 5 (some .int) ∈ wsL_law := zsub_16 _ (List.mem_of_getElem? (i := 9) rfl)
theorem qm_RL_14 : Cond.methodLink RL 14 yX6_ofPacket ∈ wsL_law := zsub_16 _ (List.mem_of_getElem? (i := 10) rfl)
theorem qi_X6_ofPacket : Cond.instanceMethod yX6_ofPacket ∈ wsL_law := zsub_16 _ (List.mem_of_getElem? (i := 11) rfl)
theorem qs_X6_ofPacket : Cond.selects RX6 yX6_ofPacket yX6_ofPacket ∈ wsL_law := zsub_16 _ (List.mem_of_getElem? (i := 12) rfl)
theorem qc_X6_ofPacket : Cond.code yX6_ofPacket cX6_ofPacket 4 (some .int) ∈ wsL_law := zsub_16 _ (List.mem_of_getElem? (i := 13) rfl)
theorem qf_RX6_129 : Cond.fieldLink RX6 129 "MeshTurns$Packets" "from" "[I" ∈ wsL_law := zsub_16 _ (List.mem_of_getElem? (i := 14) rfl)
theorem qf_RX6_132 : Cond.fieldLink RX6 132 "MeshTurns$Packets" "to" "[I" ∈ wsL_law := zsub_16 _ (List.mem_of_getElem? (i := 15) rfl)
theorem qf_RX6_135 : Cond.fieldLink RX6 135 "MeshTurns$Packets" "place" "[I" ∈ wsL_law := zsub_16 _ (List.mem_of_getElem? (i := 16) rfl)
theorem qf_RX6_138 : Cond.fieldLink RX6 138 "MeshTurns$Packets" "box" "[I" ∈ wsL_law := zsub_16 _ (List.mem_of_getElem? (i := 17) rfl)
theorem qf_RX6_150 : Cond.fieldLink RX6 150 "MeshTurns$Packets" "sentIn" "[I" ∈ wsL_law := zsub_16 _ (List.mem_of_getElem? (i := 18) rfl)
theorem qf_RX6_153 : Cond.fieldLink RX6 153 "MeshTurns$Packets" "arrivedIn" "[I" ∈ wsL_law := zsub_16 _ (List.mem_of_getElem? (i := 19) rfl)
theorem qf_RX6_156 : Cond.fieldLink RX6 156 "MeshTurns$Packets" "turned" "[I" ∈ wsL_law := zsub_16 _ (List.mem_of_getElem? (i := 20) rfl)
theorem qm_RX6_126 : Cond.methodLink RX6 126 yX2_has ∈ wsL_law := zsub_16 _ (List.mem_of_getElem? (i := 21) rfl)
theorem qi_X2_has : Cond.instanceMethod yX2_has ∈ wsL_law := zsub_16 _ (List.mem_of_getElem? (i := 22) rfl)
theorem qs_X2_has : Cond.selects RX2 yX2_has yX2_has ∈ wsL_law := zsub_16 _ (List.mem_of_getElem? (i := 23) rfl)
theorem qc_X2_has : Cond.code yX2_has cX2_has 2 (some .boolean) ∈ wsL_law := zsub_17 _ (List.mem_of_getElem? (i := 0) rfl)
theorem qm_RX6_159 : Cond.methodLink RX6 159 yX5_wayLengthOf ∈ wsL_law := zsub_17 _ (List.mem_of_getElem? (i := 1) rfl)
theorem qi_X5_wayLengthOf : Cond.instanceMethod yX5_wayLengthOf ∈ wsL_law := zsub_17 _ (List.mem_of_getElem? (i := 2) rfl)
theorem qs_X5_wayLengthOf : Cond.selects RX5 yX5_wayLengthOf yX5_wayLengthOf ∈ wsL_law := zsub_17 _ (List.mem_of_getElem? (i := 3) rfl)
theorem qc_X5_wayLengthOf : Cond.code yX5_wayLengthOf cX5_wayLengthOf 4 (some .int) ∈ wsL_law := zsub_17 _ (List.mem_of_getElem? (i := 4) rfl)
theorem qm_RX6_163 : Cond.methodLink RX6 163 yX5_firstSide ∈ wsL_law := zsub_17 _ (List.mem_of_getElem? (i := 5) rfl)
theorem qi_X5_firstSide : Cond.instanceMethod yX5_firstSide ∈ wsL_law := zsub_17 _ (List.mem_of_getElem? (i := 6) rfl)
theorem qs_X5_firstSide : Cond.selects RX5 yX5_firstSide yX5_firstSide ∈ wsL_law := zsub_17 _ (List.mem_of_getElem? (i := 7) rfl)
theorem qc_X5_firstSide : Cond.code yX5_firstSide cX5_firstSide 9 (some .int) ∈ wsL_law := zsub_17 _ (List.mem_of_getElem? (i := 8) rfl)
theorem qf_RX5_88 : Cond.fieldLink RX5 88 "MeshTurns$Packets" "place" "[I" ∈ wsL_law := zsub_17 _ (List.mem_of_getElem? (i := 9) rfl)
theorem qm_RX5_91 : Cond.methodLink RX5 91 yX4_boxBehind ∈ wsL_law := zsub_17 _ (List.mem_of_getElem? (i := 10) rfl)
theorem qm_RX5_94 : Cond.methodLink RX5 94 yX5_letsIn ∈ wsL_law := zsub_17 _ (List.mem_of_getElem? (i := 11) rfl)
theorem qm_RX6_167 : Cond.methodLink RX6 167 yX1_holds ∈ wsL_law := zsub_17 _ (List.mem_of_getElem? (i := 12) rfl)
theorem qi_X1_holds : Cond.instanceMethod yX1_holds ∈ wsL_law := zsub_17 _ (List.mem_of_getElem? (i := 13) rfl)
theorem qs_X1_holds : Cond.selects RX1 yX1_holds yX1_holds ∈ wsL_law := zsub_17 _ (List.mem_of_getElem? (i := 14) rfl)
theorem qc_X1_holds : Cond.code yX1_holds cX1_holds 4 (some .boolean) ∈ wsL_law := zsub_17 _ (List.mem_of_getElem? (i := 15) rfl)
theorem qm_RX1_25 : Cond.methodLink RX1 25 yX2_has ∈ wsL_law := zsub_17 _ (List.mem_of_getElem? (i := 16) rfl)
theorem qm_RL_72 : Cond.methodLink RL 72 yL_isAlone ∈ wsL_law := zsub_17 _ (List.mem_of_getElem? (i := 17) rfl)
theorem qt_L_isAlone : Cond.static yL_isAlone ∈ wsL_law := zsub_17 _ (List.mem_of_getElem? (i := 18) rfl)
theorem qc_L_isAlone : Cond.code yL_isAlone cL_isAlone 11 (some .boolean) ∈ wsL_law := zsub_17 _ (List.mem_of_getElem? (i := 19) rfl)
theorem qm_RL_50 : Cond.methodLink RL 50 yX6_ways ∈ wsL_law := zsub_17 _ (List.mem_of_getElem? (i := 20) rfl)
theorem qi_X6_ways : Cond.instanceMethod yX6_ways ∈ wsL_law := zsub_17 _ (List.mem_of_getElem? (i := 21) rfl)
theorem qs_X6_ways : Cond.selects RX6 yX6_ways yX6_ways ∈ wsL_law := zsub_17 _ (List.mem_of_getElem? (i := 22) rfl)
theorem qc_X6_ways : Cond.code yX6_ways cX6_ways 3 (some .int) ∈ wsL_law := zsub_17 _ (List.mem_of_getElem? (i := 23) rfl)
theorem qm_RX6_205 : Cond.methodLink RX6 205 yX4_shortestWays ∈ wsL_law := zsub_18 _ (List.mem_of_getElem? (i := 0) rfl)
theorem qi_X4_shortestWays : Cond.instanceMethod yX4_shortestWays ∈ wsL_law := zsub_18 _ (List.mem_of_getElem? (i := 1) rfl)
theorem qs_X4_shortestWays : Cond.selects RX4 yX4_shortestWays yX4_shortestWays ∈ wsL_law := zsub_18 _ (List.mem_of_getElem? (i := 2) rfl)
theorem qc_X4_shortestWays : Cond.code yX4_shortestWays cX4_shortestWays 3 (some .int) ∈ wsL_law := zsub_18 _ (List.mem_of_getElem? (i := 3) rfl)
theorem qm_RL_18 : Cond.methodLink RL 18 yL_apart ∈ wsL_law := zsub_18 _ (List.mem_of_getElem? (i := 4) rfl)
theorem qt_L_apart : Cond.static yL_apart ∈ wsL_law := zsub_18 _ (List.mem_of_getElem? (i := 5) rfl)
theorem qc_L_apart : Cond.code yL_apart cL_apart 6 (some .int) ∈ wsL_law := zsub_18 _ (List.mem_of_getElem? (i := 6) rfl)
theorem qm_RL_53 : Cond.methodLink RL 53 yX6_arrivesIn ∈ wsL_law := zsub_18 _ (List.mem_of_getElem? (i := 7) rfl)
theorem qi_X6_arrivesIn : Cond.instanceMethod yX6_arrivesIn ∈ wsL_law := zsub_18 _ (List.mem_of_getElem? (i := 8) rfl)
theorem qs_X6_arrivesIn : Cond.selects RX6 yX6_arrivesIn yX6_arrivesIn ∈ wsL_law := zsub_18 _ (List.mem_of_getElem? (i := 9) rfl)
theorem qc_X6_arrivesIn : Cond.code yX6_arrivesIn cX6_arrivesIn 3 (some .int) ∈ wsL_law := zsub_18 _ (List.mem_of_getElem? (i := 10) rfl)
theorem qm_RX6_122 : Cond.methodLink RX6 122 yX5_passTicks ∈ wsL_law := zsub_18 _ (List.mem_of_getElem? (i := 11) rfl)
theorem qi_X5_passTicks : Cond.instanceMethod yX5_passTicks ∈ wsL_law := zsub_18 _ (List.mem_of_getElem? (i := 12) rfl)
theorem qs_X5_passTicks : Cond.selects RX5 yX5_passTicks yX5_passTicks ∈ wsL_law := zsub_18 _ (List.mem_of_getElem? (i := 13) rfl)
theorem qc_X5_passTicks : Cond.code yX5_passTicks cX5_passTicks 7 none ∈ wsL_law := zsub_18 _ (List.mem_of_getElem? (i := 14) rfl)
theorem qf_RX5_110 : Cond.fieldLink RX5 110 "MeshTurns$Packets" "sent" "I" ∈ wsL_law := zsub_18 _ (List.mem_of_getElem? (i := 15) rfl)
theorem qf_RX5_120 : Cond.fieldLink RX5 120 "MeshTurns$Packets" "waits" "[I" ∈ wsL_law := zsub_18 _ (List.mem_of_getElem? (i := 16) rfl)
theorem qm_RX5_113 : Cond.methodLink RX5 113 yX5_comesInside ∈ wsL_law := zsub_18 _ (List.mem_of_getElem? (i := 17) rfl)
theorem qi_X5_comesInside : Cond.instanceMethod yX5_comesInside ∈ wsL_law := zsub_18 _ (List.mem_of_getElem? (i := 18) rfl)
theorem qs_X5_comesInside : Cond.selects RX5 yX5_comesInside yX5_comesInside ∈ wsL_law := zsub_18 _ (List.mem_of_getElem? (i := 19) rfl)
theorem qc_X5_comesInside : Cond.code yX5_comesInside cX5_comesInside 3 (some .boolean) ∈ wsL_law := zsub_18 _ (List.mem_of_getElem? (i := 20) rfl)
theorem qm_RX5_116 : Cond.methodLink RX5 116 yX5_movesOn ∈ wsL_law := zsub_18 _ (List.mem_of_getElem? (i := 21) rfl)
theorem qi_X5_movesOn : Cond.instanceMethod yX5_movesOn ∈ wsL_law := zsub_18 _ (List.mem_of_getElem? (i := 22) rfl)
theorem qs_X5_movesOn : Cond.selects RX5 yX5_movesOn yX5_movesOn ∈ wsL_law := zsub_18 _ (List.mem_of_getElem? (i := 23) rfl)
theorem qc_X5_movesOn : Cond.code yX5_movesOn cX5_movesOn 7 (some .boolean) ∈ wsL_law := zsub_19 _ (List.mem_of_getElem? (i := 0) rfl)
theorem qf_RX5_131 : Cond.fieldLink RX5 131 "MeshTurns$Packets" "arrivedIn" "[I" ∈ wsL_law := zsub_19 _ (List.mem_of_getElem? (i := 1) rfl)
theorem qm_RX5_123 : Cond.methodLink RX5 123 yX5_firstSide ∈ wsL_law := zsub_19 _ (List.mem_of_getElem? (i := 2) rfl)
theorem qm_RX5_127 : Cond.methodLink RX5 127 yX2_noteMove ∈ wsL_law := zsub_19 _ (List.mem_of_getElem? (i := 3) rfl)
theorem qi_X2_noteMove : Cond.instanceMethod yX2_noteMove ∈ wsL_law := zsub_19 _ (List.mem_of_getElem? (i := 4) rfl)
theorem qs_X2_noteMove : Cond.selects RX2 yX2_noteMove yX2_noteMove ∈ wsL_law := zsub_19 _ (List.mem_of_getElem? (i := 5) rfl)
theorem qc_X2_noteMove : Cond.code yX2_noteMove cX2_noteMove 5 none ∈ wsL_law := zsub_19 _ (List.mem_of_getElem? (i := 6) rfl)
theorem qm_RL_30 : Cond.methodLink RL 30 yX6_ticks ∈ wsL_law := zsub_19 _ (List.mem_of_getElem? (i := 7) rfl)
theorem qi_X6_ticks : Cond.instanceMethod yX6_ticks ∈ wsL_law := zsub_19 _ (List.mem_of_getElem? (i := 8) rfl)
theorem qs_X6_ticks : Cond.selects RX6 yX6_ticks yX6_ticks ∈ wsL_law := zsub_19 _ (List.mem_of_getElem? (i := 9) rfl)
theorem qc_X6_ticks : Cond.code yX6_ticks cX6_ticks 2 (some .int) ∈ wsL_law := zsub_19 _ (List.mem_of_getElem? (i := 10) rfl)
theorem qm_RX6_119 : Cond.methodLink RX6 119 yX6_isTicks ∈ wsL_law := zsub_19 _ (List.mem_of_getElem? (i := 11) rfl)
theorem qt_X6_isTicks : Cond.static yX6_isTicks ∈ wsL_law := zsub_19 _ (List.mem_of_getElem? (i := 12) rfl)
theorem qc_X6_isTicks : Cond.code yX6_isTicks cX6_isTicks 1 (some .boolean) ∈ wsL_law := zsub_19 _ (List.mem_of_getElem? (i := 13) rfl)
theorem qm_RL_27 : Cond.methodLink RL 27 yL_beside ∈ wsL_law := zsub_19 _ (List.mem_of_getElem? (i := 14) rfl)
theorem qt_L_beside : Cond.static yL_beside ∈ wsL_law := zsub_19 _ (List.mem_of_getElem? (i := 15) rfl)
theorem qc_L_beside : Cond.code yL_beside cL_beside 7 (some .int) ∈ wsL_law := zsub_19 _ (List.mem_of_getElem? (i := 16) rfl)
theorem qm_RL_75 : Cond.methodLink RL 75 yL_isTick ∈ wsL_law := zsub_19 _ (List.mem_of_getElem? (i := 17) rfl)
theorem qt_L_isTick : Cond.static yL_isTick ∈ wsL_law := zsub_19 _ (List.mem_of_getElem? (i := 18) rfl)
theorem qc_L_isTick : Cond.code yL_isTick cL_isTick 16 (some .boolean) ∈ wsL_law := zsub_19 _ (List.mem_of_getElem? (i := 19) rfl)
theorem qm_RL_83 : Cond.methodLink RL 83 yL_agree ∈ wsL_law := zsub_19 _ (List.mem_of_getElem? (i := 20) rfl)
theorem qt_L_agree : Cond.static yL_agree ∈ wsL_law := zsub_19 _ (List.mem_of_getElem? (i := 21) rfl)
theorem qc_L_agree : Cond.code yL_agree cL_agree 14 (some .boolean) ∈ wsL_law := zsub_19 _ (List.mem_of_getElem? (i := 22) rfl)
theorem zgood_1 : wsL_law_r1.all goodWord = true := by decide +kernel
theorem zgood_2 : wsL_law_r2.all goodWord = true := by decide +kernel
theorem zgood_3 : wsL_law_r3.all goodWord = true := by decide +kernel
theorem zgood_4 : wsL_law_r4.all goodWord = true := by decide +kernel
theorem zgood_5 : wsL_law_r5.all goodWord = true := by decide +kernel
theorem zgood_6 : wsL_law_r6.all goodWord = true := by decide +kernel
theorem zgood_7 : wsL_law_r7.all goodWord = true := by decide +kernel
theorem zgood_8 : wsL_law_r8.all goodWord = true := by decide +kernel
theorem zgood_9 : wsL_law_r9.all goodWord = true := by decide +kernel
theorem zgood_10 : wsL_law_r10.all goodWord = true := by decide +kernel
theorem zgood_11 : wsL_law_r11.all goodWord = true := by decide +kernel
theorem zgood_12 : wsL_law_r12.all goodWord = true := by decide +kernel
theorem zgood_13 : wsL_law_r13.all goodWord = true := by decide +kernel
theorem zgood_14 : wsL_law_r14.all goodWord = true := by decide +kernel
theorem zgood_15 : wsL_law_r15.all goodWord = true := by decide +kernel
theorem zgood_16 : wsL_law_r16.all goodWord = true := by decide +kernel
theorem zgood_17 : wsL_law_r17.all goodWord = true := by decide +kernel
theorem zgood_18 : wsL_law_r18.all goodWord = true := by decide +kernel
theorem zgood_19 : wsL_law_r19.all goodWord = true := by decide +kernel
theorem zgood_wsX60 : wsX60.all goodWord = true := by decide +kernel
theorem zgood_wsX50 : wsX50.all goodWord = true := by decide +kernel
theorem zgood_wsX40 : wsX40.all goodWord = true := by decide +kernel
theorem zgood_wsX10 : wsX10.all goodWord = true := by decide +kernel
theorem zgood_wsX30 : wsX30.all goodWord = true := by decide +kernel
theorem zgood_wsX00 : wsX00.all goodWord = true := by decide +kernel
theorem zgood_wsX20 : wsX20.all goodWord = true := by decide +kernel
theorem zall_app {a b : List Cond} (ha : a.all goodWord = true) (hb : b.all goodWord = true) : (a ++ b).all goodWord = true := by rw [List.all_append, ha, hb]; rfl
theorem zG_good : wsL_law.all goodWord = true := zall_app (b := []) (zall_app (zall_app (zall_app (zall_app (zall_app (zall_app (zall_app (zall_app zgood_1 (zall_app zgood_2 (zall_app zgood_3 (zall_app zgood_4 (zall_app zgood_5 (zall_app zgood_6 (zall_app zgood_7 (zall_app zgood_8 (zall_app zgood_9 (zall_app zgood_10 (zall_app zgood_11 (zall_app zgood_12 (zall_app zgood_13 (zall_app zgood_14 (zall_app zgood_15 (zall_app zgood_16 (zall_app zgood_17 (zall_app zgood_18 (zgood_19))))))))))))))))))) zgood_wsX60) zgood_wsX50) zgood_wsX40) zgood_wsX10) zgood_wsX30) zgood_wsX00) zgood_wsX20) rfl
