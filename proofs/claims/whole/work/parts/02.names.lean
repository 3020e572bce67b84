def RX0 : String := "TownAir$Pile"
def TX0 : u_T := fun k => match k with
  | 0 => ("TownAir$Pile", "standings", "[LTownAir$Standing;", true)
  | _ => ("TownAir$Pile", "size", "I", false)
def tyX0 : Nat → FieldType := fun k => match k with
  | 0 => .array (.object "TownAir$Standing")
  | _ => .int
theorem nmX0 : ∀ a, a < 2 → ∀ b, b < 2 → a ≠ b → (TX0 a).2.1 ≠ (TX0 b).2.1 := by decide +kernel
theorem tyX0_ok : ∀ k, k < 2 → parseFieldDescriptor (TX0 k).2.2.1 = some (tyX0 k) := by decide +kernel
def RX1 : String := "TownAir$Sights"
def TX1 : u_T := fun k => match k with
  | 0 => ("TownAir$Sights", "serfSeen", "[I", true)
  | 1 => ("TownAir$Sights", "daySeen", "[I", true)
  | 2 => ("TownAir$Sights", "howSeen", "[I", true)
  | _ => ("TownAir$Sights", "size", "I", false)
def tyX1 : Nat → FieldType := fun k => match k with
  | 0 => .array .int
  | 1 => .array .int
  | 2 => .array .int
  | _ => .int
theorem nmX1 : ∀ a, a < 4 → ∀ b, b < 4 → a ≠ b → (TX1 a).2.1 ≠ (TX1 b).2.1 := by decide +kernel
theorem tyX1_ok : ∀ k, k < 4 → parseFieldDescriptor (TX1 k).2.2.1 = some (tyX1 k) := by decide +kernel
def RX2 : String := "TownAir$Standing"
def TX2 : u_T := fun k => match k with
  | 0 => ("TownAir$Standing", "days", "I", false)
  | 1 => ("TownAir$Standing", "how", "[I", true)
  | 2 => ("TownAir$Standing", "quarter", "[I", true)
  | 3 => ("TownAir$Standing", "stayed", "[I", true)
  | 4 => ("TownAir$Standing", "met", "[I", true)
  | _ => ("TownAir$Standing", "post", "[I", true)
def tyX2 : Nat → FieldType := fun k => match k with
  | 0 => .int
  | 1 => .array .int
  | 2 => .array .int
  | 3 => .array .int
  | 4 => .array .int
  | _ => .array .int
theorem nmX2 : ∀ a, a < 6 → ∀ b, b < 6 → a ≠ b → (TX2 a).2.1 ≠ (TX2 b).2.1 := by decide +kernel
theorem tyX2_ok : ∀ k, k < 6 → parseFieldDescriptor (TX2 k).2.2.1 = some (tyX2 k) := by decide +kernel
def RX3 : String := "TownAir$Text"
def TX3 : u_T := fun k => match k with
  | 0 => ("TownAir$Text", "letters", "[C", true)
  | 1 => ("TownAir$Text", "length", "I", false)
  | 2 => ("TownAir$Text", "number", "[I", true)
  | _ => ("TownAir$Text", "numbers", "I", false)
def tyX3 : Nat → FieldType := fun k => match k with
  | 0 => .array .char
  | 1 => .int
  | 2 => .array .int
  | _ => .int
theorem nmX3 : ∀ a, a < 4 → ∀ b, b < 4 → a ≠ b → (TX3 a).2.1 ≠ (TX3 b).2.1 := by decide +kernel
theorem tyX3_ok : ∀ k, k < 4 → parseFieldDescriptor (TX3 k).2.2.1 = some (tyX3 k) := by decide +kernel
def RX4 : String := "TownAir$Told"
def TX4 : u_T := fun k => match k with
  | 0 => ("TownAir$Told", "wanted", "I", false)
  | 1 => ("TownAir$Told", "quarters", "I", false)
  | 2 => ("TownAir$Told", "guilds", "I", false)
  | 3 => ("TownAir$Told", "serfs", "I", false)
  | 4 => ("TownAir$Told", "kind", "[I", true)
  | 5 => ("TownAir$Told", "lord", "[I", true)
  | 6 => ("TownAir$Told", "home", "[I", true)
  | 7 => ("TownAir$Told", "men", "I", false)
  | 8 => ("TownAir$Told", "master", "[I", true)
  | 9 => ("TownAir$Told", "post", "[I", true)
  | 10 => ("TownAir$Told", "step", "[I", true)
  | 11 => ("TownAir$Told", "notches", "I", false)
  | 12 => ("TownAir$Told", "from", "[I", true)
  | _ => ("TownAir$Told", "to", "[I", true)
def tyX4 : Nat → FieldType := fun k => match k with
  | 0 => .int
  | 1 => .int
  | 2 => .int
  | 3 => .int
  | 4 => .array .int
  | 5 => .array .int
  | 6 => .array .int
  | 7 => .int
  | 8 => .array .int
  | 9 => .array .int
  | 10 => .array .int
  | 11 => .int
  | 12 => .array .int
  | _ => .array .int
theorem nmX4 : ∀ a, a < 14 → ∀ b, b < 14 → a ≠ b → (TX4 a).2.1 ≠ (TX4 b).2.1 := by decide +kernel
theorem tyX4_ok : ∀ k, k < 14 → parseFieldDescriptor (TX4 k).2.2.1 = some (tyX4 k) := by decide +kernel
def RX5 : String := "TownAir$Ways"
def TX5 : u_T := fun k => match k with
  | 0 => ("TownAir$Ways", "lacks", "I", false)
  | 1 => ("TownAir$Ways", "spare", "I", false)
  | 2 => ("TownAir$Ways", "found", "[I", true)
  | _ => ("TownAir$Ways", "good", "[[I", true)
def tyX5 : Nat → FieldType := fun k => match k with
  | 0 => .int
  | 1 => .int
  | 2 => .array .int
  | _ => .array (.array .int)
theorem nmX5 : ∀ a, a < 4 → ∀ b, b < 4 → a ≠ b → (TX5 a).2.1 ≠ (TX5 b).2.1 := by decide +kernel
theorem tyX5_ok : ∀ k, k < 4 → parseFieldDescriptor (TX5 k).2.2.1 = some (tyX5 k) := by decide +kernel
def RX6 : String := "TownAir"
def TX6 : u_T := fun k => match k with
  | 0 => ("TownAir", "text", "LTownAir$Text;", true)
  | 1 => ("TownAir", "laid", "LTownAir$Told;", true)
  | 2 => ("TownAir", "supposed", "LTownAir$Told;", true)
  | 3 => ("TownAir", "now", "LTownAir$Standing;", true)
  | 4 => ("TownAir", "then", "LTownAir$Standing;", true)
  | 5 => ("TownAir", "undoable", "LTownAir$Pile;", true)
  | 6 => ("TownAir", "kept", "LTownAir$Pile;", true)
  | 7 => ("TownAir", "sights", "LTownAir$Sights;", true)
  | _ => ("TownAir", "ways", "LTownAir$Ways;", true)
def tyX6 : Nat → FieldType := fun k => match k with
  | 0 => .object "TownAir$Text"
  | 1 => .object "TownAir$Told"
  | 2 => .object "TownAir$Told"
  | 3 => .object "TownAir$Standing"
  | 4 => .object "TownAir$Standing"
  | 5 => .object "TownAir$Pile"
  | 6 => .object "TownAir$Pile"
  | 7 => .object "TownAir$Sights"
  | _ => .object "TownAir$Ways"
theorem nmX6 : ∀ a, a < 9 → ∀ b, b < 9 → a ≠ b → (TX6 a).2.1 ≠ (TX6 b).2.1 := by decide +kernel
theorem tyX6_ok : ∀ k, k < 9 → parseFieldDescriptor (TX6 k).2.2.1 = some (tyX6 k) := by decide +kernel
def RX7 : String := "TownAirModel"
def TX7 : u_T := fun k => match k with
  | 0 => ("TownAirModel", "told", "[I", true)
  | 1 => ("TownAirModel", "now", "[I", true)
  | 2 => ("TownAirModel", "more", "I", false)
  | 3 => ("TownAirModel", "changed", "I", false)
  | 4 => ("TownAirModel", "changedLord", "I", false)
  | 5 => ("TownAirModel", "extra", "I", false)
  | 6 => ("TownAirModel", "extraBy", "I", false)
  | 7 => ("TownAirModel", "text", "[I", true)
  | 8 => ("TownAirModel", "letters", "I", false)
  | 9 => ("TownAirModel", "at", "I", false)
  | 10 => ("TownAirModel", "read", "[I", true)
  | 11 => ("TownAirModel", "isMore", "Z", false)
  | 12 => ("TownAirModel", "figure", "I", false)
  | 13 => ("TownAirModel", "undone", "[I", true)
  | 14 => ("TownAirModel", "undos", "I", false)
  | 15 => ("TownAirModel", "aside", "[I", true)
  | 16 => ("TownAirModel", "can", "[Z", true)
  | 17 => ("TownAirModel", "seen", "[I", true)
  | 18 => ("TownAirModel", "seens", "I", false)
  | 19 => ("TownAirModel", "kept", "[I", true)
  | _ => ("TownAirModel", "keeps", "I", false)
def tyX7 : Nat → FieldType := fun k => match k with
  | 0 => .array .int
  | 1 => .array .int
  | 2 => .int
  | 3 => .int
  | 4 => .int
  | 5 => .int
  | 6 => .int
  | 7 => .array .int
  | 8 => .int
  | 9 => .int
  | 10 => .array .int
  | 11 => .boolean
  | 12 => .int
  | 13 => .array .int
  | 14 => .int
  | 15 => .array .int
  | 16 => .array .boolean
  | 17 => .array .int
  | 18 => .int
  | 19 => .array .int
  | _ => .int
theorem nmX7 : ∀ a, a < 21 → ∀ b, b < 21 → a ≠ b → (TX7 a).2.1 ≠ (TX7 b).2.1 := by decide +kernel
theorem tyX7_ok : ∀ k, k < 21 → parseFieldDescriptor (TX7 k).2.2.1 = some (tyX7 k) := by decide +kernel
abbrev xa_cl : List vw_C := [(RX0, TX0, 2), (RX1, TX1, 4), (RX2, TX2, 6), (RX3, TX3, 4), (RX4, TX4, 14), (RX5, TX5, 4), (RX6, TX6, 9), (RX7, TX7, 21)]
def yX0_init : MethodName := ⟨RX0, "<init>", "(I)V"⟩
def yX0_put : MethodName := ⟨RX0, "put", "(LTownAir$Standing;)V"⟩
def yX0_loseLowest : MethodName := ⟨RX0, "loseLowest", "()V"⟩
def yX0_takeInto : MethodName := ⟨RX0, "takeInto", "(LTownAir$Standing;)V"⟩
def yX1_init : MethodName := ⟨RX1, "<init>", "()V"⟩
def yX1_add : MethodName := ⟨RX1, "add", "(III)Z"⟩
def yX1_deny : MethodName := ⟨RX1, "deny", "(III)Z"⟩
def yX2_init : MethodName := ⟨RX2, "<init>", "()V"⟩
def yX2_begin : MethodName := ⟨RX2, "begin", "(LTownAir$Told;)V"⟩
def yX2_copy : MethodName := ⟨RX2, "copy", "(LTownAir$Standing;)V"⟩
def yX2_isOver : MethodName := ⟨RX2, "isOver", "(I)Z"⟩
def yX2_livesIn : MethodName := ⟨RX2, "livesIn", "(II)Z"⟩
def yX2_settle : MethodName := ⟨RX2, "settle", "(II)V"⟩
def yX2_goOut : MethodName := ⟨RX2, "goOut", "(I)V"⟩
def yX2_howMany : MethodName := ⟨RX2, "howMany", "(LTownAir$Told;I)I"⟩
def yX2_menIn : MethodName := ⟨RX2, "menIn", "(LTownAir$Told;II)I"⟩
def yX2_isFoundIn : MethodName := ⟨RX2, "isFoundIn", "(LTownAir$Told;II)Z"⟩
def yX2_goDays : MethodName := ⟨RX2, "goDays", "(LTownAir$Told;I)V"⟩
def yX2_goDay : MethodName := ⟨RX2, "goDay", "(LTownAir$Told;)V"⟩
def yX2_menGoOn : MethodName := ⟨RX2, "menGoOn", "(LTownAir$Told;)V"⟩
def yX2_stayOrBeTaken : MethodName := ⟨RX2, "stayOrBeTaken", "(LTownAir$Told;I)V"⟩
def yX3_init : MethodName := ⟨RX3, "<init>", "()V"⟩
def yX3_add : MethodName := ⟨RX3, "add", "(C)Z"⟩
def yX3_readInto : MethodName := ⟨RX3, "readInto", "(LTownAir$Told;)I"⟩
def yX3_readNumbers : MethodName := ⟨RX3, "readNumbers", "(I)I"⟩
def yX3_figuresAt : MethodName := ⟨RX3, "figuresAt", "(I)I"⟩
def yX3_isFigure : MethodName := ⟨RX3, "isFigure", "(I)Z"⟩
def yX3_valueOf : MethodName := ⟨RX3, "valueOf", "(II)I"⟩
def yX4_init : MethodName := ⟨RX4, "<init>", "()V"⟩
def yX4_clear : MethodName := ⟨RX4, "clear", "()V"⟩
def yX4_copy : MethodName := ⟨RX4, "copy", "(LTownAir$Told;)V"⟩
def yX4_accepts : MethodName := ⟨RX4, "accepts", "(I[II)Z"⟩
def yX4_acceptsWanted : MethodName := ⟨RX4, "acceptsWanted", "(I)Z"⟩
def yX4_acceptsQuarters : MethodName := ⟨RX4, "acceptsQuarters", "(I)Z"⟩
def yX4_acceptsGuild : MethodName := ⟨RX4, "acceptsGuild", "(I)Z"⟩
def yX4_acceptsSerf : MethodName := ⟨RX4, "acceptsSerf", "(III)Z"⟩
def yX4_acceptsMan : MethodName := ⟨RX4, "acceptsMan", "(III)Z"⟩
def yX4_addMan : MethodName := ⟨RX4, "addMan", "(III)Z"⟩
def yX4_acceptsNotch : MethodName := ⟨RX4, "acceptsNotch", "(II)Z"⟩
def yX4_hasGuild : MethodName := ⟨RX4, "hasGuild", "(I)Z"⟩
def yX4_onRing : MethodName := ⟨RX4, "onRing", "(I)I"⟩
def yX4_areNext : MethodName := ⟨RX4, "areNext", "(II)Z"⟩
def yX4_provedFrom : MethodName := ⟨RX4, "provedFrom", "(I)I"⟩
def yX5_init : MethodName := ⟨RX5, "<init>", "()V"⟩
def yX5_look : MethodName := ⟨RX5, "look", "(LTownAir$Told;LTownAir$Standing;I)V"⟩
def yX5_bitsFound : MethodName := ⟨RX5, "bitsFound", "(LTownAir$Told;LTownAir$Standing;I)I"⟩
def yX5_bitsReaching : MethodName := ⟨RX5, "bitsReaching", "(LTownAir$Told;I)I"⟩
def yX5_lowestNear : MethodName := ⟨RX5, "lowestNear", "(LTownAir$Told;II)I"⟩
def yX5_quarterOn : MethodName := ⟨RX5, "quarterOn", "(LTownAir$Told;II)I"⟩
def yX6_init : MethodName := ⟨RX6, "<init>", "()V"⟩
def yX6_write : MethodName := ⟨RX6, "write", "(I)I"⟩
def yX6_wipe : MethodName := ⟨RX6, "wipe", "()I"⟩
def yX6_fault : MethodName := ⟨RX6, "fault", "()I"⟩
def yX6_lay : MethodName := ⟨RX6, "lay", "()I"⟩
def yX6_serf : MethodName := ⟨RX6, "serf", "(II)I"⟩
def yX6_man : MethodName := ⟨RX6, "man", "(II)I"⟩
def yX6_move : MethodName := ⟨RX6, "move", "(II)I"⟩
def yX6_leave : MethodName := ⟨RX6, "leave", "(I)I"⟩
def yX6_send : MethodName := ⟨RX6, "send", "(II)I"⟩
def yX6_pass : MethodName := ⟨RX6, "pass", "(I)I"⟩
def yX6_undo : MethodName := ⟨RX6, "undo", "()I"⟩
def yX6_behind : MethodName := ⟨RX6, "behind", "(III)I"⟩
def yX6_ends : MethodName := ⟨RX6, "ends", "(I)I"⟩
def yX6_live : MethodName := ⟨RX6, "live", "(II)I"⟩
def yX6_way : MethodName := ⟨RX6, "way", "(II)I"⟩
def yX6_hunt : MethodName := ⟨RX6, "hunt", "(II)I"⟩
def yX6_proof : MethodName := ⟨RX6, "proof", "(II)I"⟩
def yX6_gap : MethodName := ⟨RX6, "gap", "(II)I"⟩
def yX6_seen : MethodName := ⟨RX6, "seen", "(III)I"⟩
def yX6_forget : MethodName := ⟨RX6, "forget", "()I"⟩
def yX6_lords : MethodName := ⟨RX6, "lords", "(I)I"⟩
def yX6_leap : MethodName := ⟨RX6, "leap", "(I)I"⟩
def yX6_sure : MethodName := ⟨RX6, "sure", "(IIII)I"⟩
def yX6_year : MethodName := ⟨RX6, "year", "(III)I"⟩
def yX6_keep : MethodName := ⟨RX6, "keep", "()I"⟩
def yX6_back : MethodName := ⟨RX6, "back", "()I"⟩
def yX6_count : MethodName := ⟨RX6, "count", "(I)I"⟩
def yX6_isNot : MethodName := ⟨RX6, "isNot", "(III)Z"⟩
def yX6_isNoSerf : MethodName := ⟨RX6, "isNoSerf", "(I)Z"⟩
def yX6_isNoMan : MethodName := ⟨RX6, "isNoMan", "(I)Z"⟩
def yX6_isNoQuarter : MethodName := ⟨RX6, "isNoQuarter", "(I)Z"⟩
def yX6_areNoDays : MethodName := ⟨RX6, "areNoDays", "(II)Z"⟩
def yX6_daysToEnd : MethodName := ⟨RX6, "daysToEnd", "(I)I"⟩
def yX6_daysToFree : MethodName := ⟨RX6, "daysToFree", "(II)I"⟩
def yX6_takenWithOneMore : MethodName := ⟨RX6, "takenWithOneMore", "(III)I"⟩
def yX6_couldBeOf : MethodName := ⟨RX6, "couldBeOf", "(II)Z"⟩
def yX6_freeBehind : MethodName := ⟨RX6, "freeBehind", "(I)I"⟩
def yX6_draw : MethodName := ⟨RX6, "draw", "(II)I"⟩
def yX6_actByDraw : MethodName := ⟨RX6, "actByDraw", "(I)V"⟩
def yX6_power : MethodName := ⟨RX6, "power", "(II)I"⟩
def yX6_commonDivisor : MethodName := ⟨RX6, "commonDivisor", "(II)I"⟩
def yX6_copyRow : MethodName := ⟨RX6, "copyRow", "([I[I)V"⟩
def yX7_in : MethodName := ⟨RX7, "in", "(JJJ)Z"⟩
def yX7_init : MethodName := ⟨RX7, "<init>", "()V"⟩
def yX7_serfIs : MethodName := ⟨RX7, "serfIs", "(IIII)V"⟩
def yX7_firstDay : MethodName := ⟨RX7, "firstDay", "()V"⟩
def yX7_isSerf : MethodName := ⟨RX7, "isSerf", "(I)Z"⟩
def yX7_isMan : MethodName := ⟨RX7, "isMan", "(I)Z"⟩
def yX7_isQuarter : MethodName := ⟨RX7, "isQuarter", "(I)Z"⟩
def yX7_how : MethodName := ⟨RX7, "how", "(I)I"⟩
def yX7_quarter : MethodName := ⟨RX7, "quarter", "(I)I"⟩
def yX7_stayed : MethodName := ⟨RX7, "stayed", "(I)I"⟩
def yX7_met : MethodName := ⟨RX7, "met", "(I)I"⟩
def yX7_kind : MethodName := ⟨RX7, "kind", "(I)I"⟩
def yX7_lord : MethodName := ⟨RX7, "lord", "(I)I"⟩
def yX7_write : MethodName := ⟨RX7, "write", "(I)I"⟩
def yX7_wipe : MethodName := ⟨RX7, "wipe", "()I"⟩
def yX7_isFigure : MethodName := ⟨RX7, "isFigure", "()Z"⟩
def yX7_number : MethodName := ⟨RX7, "number", "(III)Z"⟩
def yX7_readOne : MethodName := ⟨RX7, "readOne", "(III)Z"⟩
def yX7_readSerf : MethodName := ⟨RX7, "readSerf", "()Z"⟩
def yX7_readMan : MethodName := ⟨RX7, "readMan", "()Z"⟩
def yX7_readNotch : MethodName := ⟨RX7, "readNotch", "()Z"⟩
def yX7_item : MethodName := ⟨RX7, "item", "()Z"⟩
def yX7_fault : MethodName := ⟨RX7, "fault", "()I"⟩
def yX7_lay : MethodName := ⟨RX7, "lay", "()I"⟩
def yX7_men : MethodName := ⟨RX7, "men", "(II)I"⟩
def yX7_isMet : MethodName := ⟨RX7, "isMet", "(II)Z"⟩
def yX7_goesBy : MethodName := ⟨RX7, "goesBy", "()V"⟩
def yX7_menGoOn : MethodName := ⟨RX7, "menGoOn", "()V"⟩
def yX7_goesOn : MethodName := ⟨RX7, "goesOn", "(I)V"⟩
def yX7_many : MethodName := ⟨RX7, "many", "(I)I"⟩
def yX7_serf : MethodName := ⟨RX7, "serf", "(II)I"⟩
def yX7_man : MethodName := ⟨RX7, "man", "(II)I"⟩
def yX7_notes : MethodName := ⟨RX7, "notes", "()V"⟩
def yX7_moves : MethodName := ⟨RX7, "moves", "(II)V"⟩
def yX7_leaves : MethodName := ⟨RX7, "leaves", "(I)V"⟩
def yX7_move : MethodName := ⟨RX7, "move", "(II)I"⟩
def yX7_leave : MethodName := ⟨RX7, "leave", "(I)I"⟩
def yX7_send : MethodName := ⟨RX7, "send", "(II)I"⟩
def yX7_pass : MethodName := ⟨RX7, "pass", "(I)I"⟩
def yX7_undo : MethodName := ⟨RX7, "undo", "()I"⟩
def yX7_asides : MethodName := ⟨RX7, "asides", "()V"⟩
def yX7_backs : MethodName := ⟨RX7, "backs", "()V"⟩
def yX7_behind : MethodName := ⟨RX7, "behind", "(III)I"⟩
def yX7_ends : MethodName := ⟨RX7, "ends", "(I)I"⟩
def yX7_freeBehind : MethodName := ⟨RX7, "freeBehind", "(I)I"⟩
def yX7_live : MethodName := ⟨RX7, "live", "(II)I"⟩
def yX7_spot : MethodName := ⟨RX7, "spot", "(III)I"⟩
def yX7_ways : MethodName := ⟨RX7, "ways", "(II)V"⟩
def yX7_way : MethodName := ⟨RX7, "way", "(II)I"⟩
def yX7_hunt : MethodName := ⟨RX7, "hunt", "(II)I"⟩
def yX7_isProved : MethodName := ⟨RX7, "isProved", "(II)Z"⟩
def yX7_gapOf : MethodName := ⟨RX7, "gapOf", "(III)I"⟩
def yX7_proof : MethodName := ⟨RX7, "proof", "(II)I"⟩
def yX7_gap : MethodName := ⟨RX7, "gap", "(II)I"⟩
def yX7_seen : MethodName := ⟨RX7, "seen", "(III)I"⟩
def yX7_forget : MethodName := ⟨RX7, "forget", "()I"⟩
def yX7_isSo : MethodName := ⟨RX7, "isSo", "(I)Z"⟩
def yX7_lords : MethodName := ⟨RX7, "lords", "(I)I"⟩
def yX7_freeSet : MethodName := ⟨RX7, "freeSet", "(I)I"⟩
def yX7_leap : MethodName := ⟨RX7, "leap", "(I)I"⟩
def yX7_sure : MethodName := ⟨RX7, "sure", "(IIII)I"⟩
def yX7_year : MethodName := ⟨RX7, "year", "(III)I"⟩
def yX7_keep : MethodName := ⟨RX7, "keep", "()I"⟩
def yX7_back : MethodName := ⟨RX7, "back", "()I"⟩
def yX7_count : MethodName := ⟨RX7, "count", "(I)I"⟩
/-- a method: its name, code, locals, answer, class, rank (calls below it), number of arguments with the receiver -/
abbrev xa_MI : Type := MethodName × ByteArray × Nat × Option FieldType × Nat × Nat
def xa_mt : List xa_MI := [
  (yX0_init, prog_2_method_1_code, 3, none, 0, 2),
  (yX0_put, prog_2_method_2_code, 2, none, 0, 3),
  (yX0_loseLowest, prog_2_method_3_code, 3, none, 0, 0),
  (yX0_takeInto, prog_2_method_4_code, 2, none, 0, 3),
  (yX1_init, prog_3_method_1_code, 1, none, 1, 1),
  (yX1_add, prog_3_method_2_code, 4, some .boolean, 1, 0),
  (yX1_deny, prog_3_method_3_code, 5, some .boolean, 1, 0),
  (yX2_init, prog_4_method_1_code, 1, none, 2, 1),
  (yX2_begin, prog_4_method_2_code, 3, none, 2, 2),
  (yX2_copy, prog_4_method_3_code, 2, none, 2, 2),
  (yX2_isOver, prog_4_method_4_code, 2, some .boolean, 2, 0),
  (yX2_livesIn, prog_4_method_5_code, 3, some .boolean, 2, 0),
  (yX2_settle, prog_4_method_6_code, 3, none, 2, 0),
  (yX2_goOut, prog_4_method_7_code, 2, none, 2, 0),
  (yX2_howMany, prog_4_method_8_code, 5, some .int, 2, 0),
  (yX2_menIn, prog_4_method_9_code, 6, some .int, 2, 0),
  (yX2_isFoundIn, prog_4_method_10_code, 6, some .boolean, 2, 1),
  (yX2_goDays, prog_4_method_11_code, 4, none, 2, 4),
  (yX2_goDay, prog_4_method_12_code, 3, none, 2, 3),
  (yX2_menGoOn, prog_4_method_13_code, 3, none, 2, 1),
  (yX2_stayOrBeTaken, prog_4_method_14_code, 3, none, 2, 2),
  (yX3_init, prog_5_method_1_code, 1, none, 3, 1),
  (yX3_add, prog_5_method_2_code, 2, some .boolean, 3, 0),
  (yX3_readInto, prog_5_method_3_code, 5, some .int, 3, 3),
  (yX3_readNumbers, prog_5_method_4_code, 5, some .int, 3, 2),
  (yX3_figuresAt, prog_5_method_5_code, 2, some .int, 3, 1),
  (yX3_isFigure, prog_5_method_6_code, 2, some .boolean, 3, 0),
  (yX3_valueOf, prog_5_method_7_code, 5, some .int, 3, 0),
  (yX4_init, prog_6_method_1_code, 1, none, 4, 1),
  (yX4_clear, prog_6_method_2_code, 1, none, 4, 0),
  (yX4_copy, prog_6_method_3_code, 2, none, 4, 2),
  (yX4_accepts, prog_6_method_4_code, 4, some .boolean, 4, 2),
  (yX4_acceptsWanted, prog_6_method_5_code, 2, some .boolean, 4, 1),
  (yX4_acceptsQuarters, prog_6_method_6_code, 2, some .boolean, 4, 1),
  (yX4_acceptsGuild, prog_6_method_7_code, 2, some .boolean, 4, 1),
  (yX4_acceptsSerf, prog_6_method_8_code, 4, some .boolean, 4, 1),
  (yX4_acceptsMan, prog_6_method_9_code, 4, some .boolean, 4, 1),
  (yX4_addMan, prog_6_method_10_code, 4, some .boolean, 4, 0),
  (yX4_acceptsNotch, prog_6_method_11_code, 3, some .boolean, 4, 1),
  (yX4_hasGuild, prog_6_method_12_code, 2, some .boolean, 4, 0),
  (yX4_onRing, prog_6_method_13_code, 2, some .int, 4, 0),
  (yX4_areNext, prog_6_method_14_code, 3, some .boolean, 4, 1),
  (yX4_provedFrom, prog_6_method_15_code, 4, some .int, 4, 1),
  (yX5_init, prog_7_method_1_code, 1, none, 5, 1),
  (yX5_look, prog_7_method_2_code, 6, none, 5, 4),
  (yX5_bitsFound, prog_7_method_3_code, 6, some .int, 5, 2),
  (yX5_bitsReaching, prog_7_method_4_code, 5, some .int, 5, 3),
  (yX5_lowestNear, prog_7_method_5_code, 5, some .int, 5, 2),
  (yX5_quarterOn, prog_7_method_6_code, 7, some .int, 5, 3),
  (yX6_init, prog_1_method_1_code, 2, none, 6, 4),
  (yX6_write, prog_1_method_2_code, 2, some .int, 6, 1),
  (yX6_wipe, prog_1_method_3_code, 2, some .int, 6, 0),
  (yX6_fault, prog_1_method_4_code, 1, some .int, 6, 4),
  (yX6_lay, prog_1_method_5_code, 1, some .int, 6, 4),
  (yX6_serf, prog_1_method_6_code, 3, some .int, 6, 2),
  (yX6_man, prog_1_method_7_code, 3, some .int, 6, 2),
  (yX6_move, prog_1_method_8_code, 3, some .int, 6, 4),
  (yX6_leave, prog_1_method_9_code, 3, some .int, 6, 4),
  (yX6_send, prog_1_method_10_code, 4, some .int, 6, 4),
  (yX6_pass, prog_1_method_11_code, 3, some .int, 6, 5),
  (yX6_undo, prog_1_method_12_code, 1, some .int, 6, 4),
  (yX6_behind, prog_1_method_13_code, 4, some .int, 6, 5),
  (yX6_ends, prog_1_method_14_code, 2, some .int, 6, 5),
  (yX6_live, prog_1_method_15_code, 7, some .int, 6, 6),
  (yX6_way, prog_1_method_16_code, 3, some .int, 6, 5),
  (yX6_hunt, prog_1_method_17_code, 8, some .int, 6, 5),
  (yX6_proof, prog_1_method_18_code, 7, some .int, 6, 2),
  (yX6_gap, prog_1_method_19_code, 4, some .int, 6, 2),
  (yX6_seen, prog_1_method_20_code, 4, some .int, 6, 2),
  (yX6_forget, prog_1_method_21_code, 2, some .int, 6, 0),
  (yX6_lords, prog_1_method_22_code, 4, some .int, 6, 5),
  (yX6_leap, prog_1_method_23_code, 3, some .int, 6, 6),
  (yX6_sure, prog_1_method_24_code, 8, some .int, 6, 1),
  (yX6_year, prog_1_method_25_code, 5, some .int, 6, 4),
  (yX6_keep, prog_1_method_26_code, 1, some .int, 6, 4),
  (yX6_back, prog_1_method_27_code, 1, some .int, 6, 4),
  (yX6_count, prog_1_method_28_code, 2, some .int, 6, 1),
  (yX6_isNot, prog_1_method_29_code, 3, some .boolean, 6, 0),
  (yX6_isNoSerf, prog_1_method_30_code, 2, some .boolean, 6, 1),
  (yX6_isNoMan, prog_1_method_31_code, 2, some .boolean, 6, 1),
  (yX6_isNoQuarter, prog_1_method_32_code, 2, some .boolean, 6, 1),
  (yX6_areNoDays, prog_1_method_33_code, 2, some .boolean, 6, 1),
  (yX6_daysToEnd, prog_1_method_34_code, 3, some .int, 6, 4),
  (yX6_daysToFree, prog_1_method_35_code, 4, some .int, 6, 5),
  (yX6_takenWithOneMore, prog_1_method_36_code, 5, some .int, 6, 4),
  (yX6_couldBeOf, prog_1_method_37_code, 4, some .boolean, 6, 4),
  (yX6_freeBehind, prog_1_method_38_code, 4, some .int, 6, 5),
  (yX6_draw, prog_1_method_39_code, 4, some .int, 6, 0),
  (yX6_actByDraw, prog_1_method_40_code, 4, none, 6, 1),
  (yX6_power, prog_1_method_41_code, 4, some .int, 6, 0),
  (yX6_commonDivisor, prog_1_method_42_code, 6, some .int, 6, 0),
  (yX6_copyRow, prog_1_method_43_code, 2, none, 6, 1),
  (yX7_in, prog_9_method_2_code, 6, some .boolean, 7, 0),
  (yX7_init, prog_9_method_3_code, 1, none, 7, 1),
  (yX7_serfIs, prog_9_method_4_code, 5, none, 7, 0),
  (yX7_firstDay, prog_9_method_5_code, 3, none, 7, 0),
  (yX7_isSerf, prog_9_method_6_code, 2, some .boolean, 7, 1),
  (yX7_isMan, prog_9_method_7_code, 2, some .boolean, 7, 1),
  (yX7_isQuarter, prog_9_method_8_code, 2, some .boolean, 7, 1),
  (yX7_how, prog_9_method_9_code, 2, some .int, 7, 0),
  (yX7_quarter, prog_9_method_10_code, 2, some .int, 7, 0),
  (yX7_stayed, prog_9_method_11_code, 2, some .int, 7, 0),
  (yX7_met, prog_9_method_12_code, 2, some .int, 7, 0),
  (yX7_kind, prog_9_method_13_code, 2, some .int, 7, 0),
  (yX7_lord, prog_9_method_14_code, 2, some .int, 7, 0),
  (yX7_write, prog_9_method_15_code, 2, some .int, 7, 1),
  (yX7_wipe, prog_9_method_16_code, 2, some .int, 7, 0),
  (yX7_isFigure, prog_9_method_17_code, 1, some .boolean, 7, 1),
  (yX7_number, prog_9_method_18_code, 5, some .boolean, 7, 2),
  (yX7_readOne, prog_9_method_19_code, 5, some .boolean, 7, 3),
  (yX7_readSerf, prog_9_method_20_code, 2, some .boolean, 7, 4),
  (yX7_readMan, prog_9_method_21_code, 2, some .boolean, 7, 4),
  (yX7_readNotch, prog_9_method_22_code, 2, some .boolean, 7, 4),
  (yX7_item, prog_9_method_23_code, 3, some .boolean, 7, 5),
  (yX7_fault, prog_9_method_24_code, 2, some .int, 7, 6),
  (yX7_lay, prog_9_method_25_code, 2, some .int, 7, 7),
  (yX7_men, prog_9_method_26_code, 5, some .int, 7, 0),
  (yX7_isMet, prog_9_method_27_code, 6, some .boolean, 7, 1),
  (yX7_goesBy, prog_9_method_28_code, 3, none, 7, 2),
  (yX7_menGoOn, prog_9_method_29_code, 2, none, 7, 0),
  (yX7_goesOn, prog_9_method_30_code, 3, none, 7, 3),
  (yX7_many, prog_9_method_31_code, 4, some .int, 7, 1),
  (yX7_serf, prog_9_method_32_code, 3, some .int, 7, 2),
  (yX7_man, prog_9_method_33_code, 3, some .int, 7, 2),
  (yX7_notes, prog_9_method_34_code, 2, none, 7, 0),
  (yX7_moves, prog_9_method_35_code, 4, none, 7, 0),
  (yX7_leaves, prog_9_method_36_code, 2, none, 7, 0),
  (yX7_move, prog_9_method_37_code, 3, some .int, 7, 2),
  (yX7_leave, prog_9_method_38_code, 3, some .int, 7, 2),
  (yX7_send, prog_9_method_39_code, 4, some .int, 7, 2),
  (yX7_pass, prog_9_method_40_code, 3, some .int, 7, 4),
  (yX7_undo, prog_9_method_41_code, 2, some .int, 7, 0),
  (yX7_asides, prog_9_method_42_code, 2, none, 7, 0),
  (yX7_backs, prog_9_method_43_code, 2, none, 7, 0),
  (yX7_behind, prog_9_method_44_code, 5, some .int, 7, 4),
  (yX7_ends, prog_9_method_45_code, 3, some .int, 7, 3),
  (yX7_freeBehind, prog_9_method_46_code, 4, some .int, 7, 3),
  (yX7_live, prog_9_method_47_code, 8, some .int, 7, 4),
  (yX7_spot, prog_9_method_48_code, 3, some .int, 7, 0),
  (yX7_ways, prog_9_method_49_code, 10, none, 7, 2),
  (yX7_way, prog_9_method_50_code, 11, some .int, 7, 3),
  (yX7_hunt, prog_9_method_51_code, 8, some .int, 7, 4),
  (yX7_isProved, prog_9_method_52_code, 5, some .boolean, 7, 1),
  (yX7_gapOf, prog_9_method_53_code, 5, some .int, 7, 2),
  (yX7_proof, prog_9_method_54_code, 7, some .int, 7, 3),
  (yX7_gap, prog_9_method_55_code, 3, some .int, 7, 3),
  (yX7_seen, prog_9_method_56_code, 4, some .int, 7, 2),
  (yX7_forget, prog_9_method_57_code, 2, some .int, 7, 0),
  (yX7_isSo, prog_9_method_58_code, 5, some .boolean, 7, 3),
  (yX7_lords, prog_9_method_59_code, 4, some .int, 7, 4),
  (yX7_freeSet, prog_9_method_60_code, 4, some .int, 7, 4),
  (yX7_leap, prog_9_method_61_code, 3, some .int, 7, 5),
  (yX7_sure, prog_9_method_62_code, 12, some .int, 7, 1),
  (yX7_year, prog_9_method_63_code, 10, some .int, 7, 3),
  (yX7_keep, prog_9_method_64_code, 2, some .int, 7, 0),
  (yX7_back, prog_9_method_65_code, 2, some .int, 7, 0),
  (yX7_count, prog_9_method_66_code, 2, some .int, 7, 2)]
def xa_in (w : Cond) : Prop := w ∈ lw_tbl ∧ goodWord w = true
theorem xa_pl {w : Cond} (i : Nat) (h : lw_tbl[i]? = some w) (g : goodWord w = true) : xa_in w := ⟨List.mem_of_getElem? h, g⟩
/-- what the tables say of a method -/
def xa_mok (q : xa_MI) : Prop := xa_in (.code q.1 q.2.1 q.2.2.1 q.2.2.2.1) ∧ xa_in (.initialized q.1.cls) ∧ (q.1.cls ≠ "java/lang/invoke/MethodHandle" ∧ q.1.cls ≠ "java/lang/invoke/VarHandle") ∧ plainName q.1.cls = true ∧ q.2.2.1 ≤ 14 ∧ ((xa_in (.instanceMethod q.1) ∧ (xa_in (.selects q.1.cls q.1 q.1) ∨ q.1.name = "<init>")) ∨ xa_in (.static q.1)) ∧ (xa_cl[q.2.2.2.2.1]?).map (fun z => z.1) = some q.1.cls
set_option maxRecDepth 100000 in
theorem xa_mo0 : xa_mok (yX0_init, prog_2_method_1_code, 3, none, 0, 2) := ⟨xa_pl 197 rfl rfl, xa_pl 49 rfl rfl, by decide +kernel, by decide +kernel, by decide +kernel, Or.inl ⟨xa_pl 196 rfl rfl, Or.inr rfl⟩, rfl⟩
set_option maxRecDepth 100000 in
theorem xa_mo1 : xa_mok (yX0_put, prog_2_method_2_code, 2, none, 0, 3) := ⟨xa_pl 469 rfl rfl, xa_pl 49 rfl rfl, by decide +kernel, by decide +kernel, by decide +kernel, Or.inl ⟨xa_pl 467 rfl rfl, Or.inl (xa_pl 468 rfl rfl)⟩, rfl⟩
set_option maxRecDepth 100000 in
theorem xa_mo2 : xa_mok (yX0_loseLowest, prog_2_method_3_code, 3, none, 0, 0) := ⟨xa_pl 473 rfl rfl, xa_pl 49 rfl rfl, by decide +kernel, by decide +kernel, by decide +kernel, Or.inl ⟨xa_pl 471 rfl rfl, Or.inl (xa_pl 472 rfl rfl)⟩, rfl⟩
set_option maxRecDepth 100000 in
theorem xa_mo3 : xa_mok (yX0_takeInto, prog_2_method_4_code, 2, none, 0, 3) := ⟨xa_pl 538 rfl rfl, xa_pl 49 rfl rfl, by decide +kernel, by decide +kernel, by decide +kernel, Or.inl ⟨xa_pl 536 rfl rfl, Or.inl (xa_pl 537 rfl rfl)⟩, rfl⟩
set_option maxRecDepth 100000 in
theorem xa_mo4 : xa_mok (yX1_init, prog_3_method_1_code, 1, none, 1, 1) := ⟨xa_pl 217 rfl rfl, xa_pl 51 rfl rfl, by decide +kernel, by decide +kernel, by decide +kernel, Or.inl ⟨xa_pl 216 rfl rfl, Or.inr rfl⟩, rfl⟩
set_option maxRecDepth 100000 in
theorem xa_mo5 : xa_mok (yX1_add, prog_3_method_2_code, 4, some .boolean, 1, 0) := ⟨xa_pl 626 rfl rfl, xa_pl 51 rfl rfl, by decide +kernel, by decide +kernel, by decide +kernel, Or.inl ⟨xa_pl 624 rfl rfl, Or.inl (xa_pl 625 rfl rfl)⟩, rfl⟩
set_option maxRecDepth 100000 in
theorem xa_mo6 : xa_mok (yX1_deny, prog_3_method_3_code, 5, some .boolean, 1, 0) := ⟨xa_pl 642 rfl rfl, xa_pl 51 rfl rfl, by decide +kernel, by decide +kernel, by decide +kernel, Or.inl ⟨xa_pl 640 rfl rfl, Or.inl (xa_pl 641 rfl rfl)⟩, rfl⟩
set_option maxRecDepth 100000 in
theorem xa_mo7 : xa_mok (yX2_init, prog_4_method_1_code, 1, none, 2, 1) := ⟨xa_pl 164 rfl rfl, xa_pl 48 rfl rfl, by decide +kernel, by decide +kernel, by decide +kernel, Or.inl ⟨xa_pl 163 rfl rfl, Or.inr rfl⟩, rfl⟩
set_option maxRecDepth 100000 in
theorem xa_mo8 : xa_mok (yX2_begin, prog_4_method_2_code, 3, none, 2, 2) := ⟨xa_pl 369 rfl rfl, xa_pl 48 rfl rfl, by decide +kernel, by decide +kernel, by decide +kernel, Or.inl ⟨xa_pl 367 rfl rfl, Or.inl (xa_pl 368 rfl rfl)⟩, rfl⟩
set_option maxRecDepth 100000 in
theorem xa_mo9 : xa_mok (yX2_copy, prog_4_method_3_code, 2, none, 2, 2) := ⟨xa_pl 477 rfl rfl, xa_pl 48 rfl rfl, by decide +kernel, by decide +kernel, by decide +kernel, Or.inl ⟨xa_pl 475 rfl rfl, Or.inl (xa_pl 476 rfl rfl)⟩, rfl⟩
set_option maxRecDepth 100000 in
theorem xa_mo10 : xa_mok (yX2_isOver, prog_4_method_4_code, 2, some .boolean, 2, 0) := ⟨xa_pl 461 rfl rfl, xa_pl 48 rfl rfl, by decide +kernel, by decide +kernel, by decide +kernel, Or.inl ⟨xa_pl 459 rfl rfl, Or.inl (xa_pl 460 rfl rfl)⟩, rfl⟩
set_option maxRecDepth 100000 in
theorem xa_mo11 : xa_mok (yX2_livesIn, prog_4_method_5_code, 3, some .boolean, 2, 0) := ⟨xa_pl 465 rfl rfl, xa_pl 48 rfl rfl, by decide +kernel, by decide +kernel, by decide +kernel, Or.inl ⟨xa_pl 463 rfl rfl, Or.inl (xa_pl 464 rfl rfl)⟩, rfl⟩
set_option maxRecDepth 100000 in
theorem xa_mo12 : xa_mok (yX2_settle, prog_4_method_6_code, 3, none, 2, 0) := ⟨xa_pl 481 rfl rfl, xa_pl 48 rfl rfl, by decide +kernel, by decide +kernel, by decide +kernel, Or.inl ⟨xa_pl 479 rfl rfl, Or.inl (xa_pl 480 rfl rfl)⟩, rfl⟩
set_option maxRecDepth 100000 in
theorem xa_mo13 : xa_mok (yX2_goOut, prog_4_method_7_code, 2, none, 2, 0) := ⟨xa_pl 489 rfl rfl, xa_pl 48 rfl rfl, by decide +kernel, by decide +kernel, by decide +kernel, Or.inl ⟨xa_pl 487 rfl rfl, Or.inl (xa_pl 488 rfl rfl)⟩, rfl⟩
set_option maxRecDepth 100000 in
theorem xa_mo14 : xa_mok (yX2_howMany, prog_4_method_8_code, 5, some .int, 2, 0) := ⟨xa_pl 501 rfl rfl, xa_pl 48 rfl rfl, by decide +kernel, by decide +kernel, by decide +kernel, Or.inl ⟨xa_pl 499 rfl rfl, Or.inl (xa_pl 500 rfl rfl)⟩, rfl⟩
set_option maxRecDepth 100000 in
theorem xa_mo15 : xa_mok (yX2_menIn, prog_4_method_9_code, 6, some .int, 2, 0) := ⟨xa_pl 441 rfl rfl, xa_pl 48 rfl rfl, by decide +kernel, by decide +kernel, by decide +kernel, Or.inl ⟨xa_pl 439 rfl rfl, Or.inl (xa_pl 440 rfl rfl)⟩, rfl⟩
set_option maxRecDepth 100000 in
theorem xa_mo16 : xa_mok (yX2_isFoundIn, prog_4_method_10_code, 6, some .boolean, 2, 1) := ⟨xa_pl 517 rfl rfl, xa_pl 48 rfl rfl, by decide +kernel, by decide +kernel, by decide +kernel, Or.inl ⟨xa_pl 515 rfl rfl, Or.inl (xa_pl 516 rfl rfl)⟩, rfl⟩
set_option maxRecDepth 100000 in
theorem xa_mo17 : xa_mok (yX2_goDays, prog_4_method_11_code, 4, none, 2, 4) := ⟨xa_pl 505 rfl rfl, xa_pl 48 rfl rfl, by decide +kernel, by decide +kernel, by decide +kernel, Or.inl ⟨xa_pl 503 rfl rfl, Or.inl (xa_pl 504 rfl rfl)⟩, rfl⟩
set_option maxRecDepth 100000 in
theorem xa_mo18 : xa_mok (yX2_goDay, prog_4_method_12_code, 3, none, 2, 3) := ⟨xa_pl 509 rfl rfl, xa_pl 48 rfl rfl, by decide +kernel, by decide +kernel, by decide +kernel, Or.inl ⟨xa_pl 507 rfl rfl, Or.inl (xa_pl 508 rfl rfl)⟩, rfl⟩
set_option maxRecDepth 100000 in
theorem xa_mo19 : xa_mok (yX2_menGoOn, prog_4_method_13_code, 3, none, 2, 1) := ⟨xa_pl 530 rfl rfl, xa_pl 48 rfl rfl, by decide +kernel, by decide +kernel, by decide +kernel, Or.inl ⟨xa_pl 528 rfl rfl, Or.inl (xa_pl 529 rfl rfl)⟩, rfl⟩
set_option maxRecDepth 100000 in
theorem xa_mo20 : xa_mok (yX2_stayOrBeTaken, prog_4_method_14_code, 3, none, 2, 2) := ⟨xa_pl 513 rfl rfl, xa_pl 48 rfl rfl, by decide +kernel, by decide +kernel, by decide +kernel, Or.inl ⟨xa_pl 511 rfl rfl, Or.inl (xa_pl 512 rfl rfl)⟩, rfl⟩
set_option maxRecDepth 100000 in
theorem xa_mo21 : xa_mok (yX3_init, prog_5_method_1_code, 1, none, 3, 1) := ⟨xa_pl 71 rfl rfl, xa_pl 46 rfl rfl, by decide +kernel, by decide +kernel, by decide +kernel, Or.inl ⟨xa_pl 70 rfl rfl, Or.inr rfl⟩, rfl⟩
set_option maxRecDepth 100000 in
theorem xa_mo22 : xa_mok (yX3_add, prog_5_method_2_code, 2, some .boolean, 3, 0) := ⟨xa_pl 306 rfl rfl, xa_pl 46 rfl rfl, by decide +kernel, by decide +kernel, by decide +kernel, Or.inl ⟨xa_pl 304 rfl rfl, Or.inl (xa_pl 305 rfl rfl)⟩, rfl⟩
set_option maxRecDepth 100000 in
theorem xa_mo23 : xa_mok (yX3_readInto, prog_5_method_3_code, 5, some .int, 3, 3) := ⟨xa_pl 310 rfl rfl, xa_pl 46 rfl rfl, by decide +kernel, by decide +kernel, by decide +kernel, Or.inl ⟨xa_pl 308 rfl rfl, Or.inl (xa_pl 309 rfl rfl)⟩, rfl⟩
set_option maxRecDepth 100000 in
theorem xa_mo24 : xa_mok (yX3_readNumbers, prog_5_method_4_code, 5, some .int, 3, 2) := ⟨xa_pl 318 rfl rfl, xa_pl 46 rfl rfl, by decide +kernel, by decide +kernel, by decide +kernel, Or.inl ⟨xa_pl 316 rfl rfl, Or.inl (xa_pl 317 rfl rfl)⟩, rfl⟩
set_option maxRecDepth 100000 in
theorem xa_mo25 : xa_mok (yX3_figuresAt, prog_5_method_5_code, 2, some .int, 3, 1) := ⟨xa_pl 322 rfl rfl, xa_pl 46 rfl rfl, by decide +kernel, by decide +kernel, by decide +kernel, Or.inl ⟨xa_pl 320 rfl rfl, Or.inl (xa_pl 321 rfl rfl)⟩, rfl⟩
set_option maxRecDepth 100000 in
theorem xa_mo26 : xa_mok (yX3_isFigure, prog_5_method_6_code, 2, some .boolean, 3, 0) := ⟨xa_pl 326 rfl rfl, xa_pl 46 rfl rfl, by decide +kernel, by decide +kernel, by decide +kernel, Or.inl ⟨xa_pl 324 rfl rfl, Or.inl (xa_pl 325 rfl rfl)⟩, rfl⟩
set_option maxRecDepth 100000 in
theorem xa_mo27 : xa_mok (yX3_valueOf, prog_5_method_7_code, 5, some .int, 3, 0) := ⟨xa_pl 330 rfl rfl, xa_pl 46 rfl rfl, by decide +kernel, by decide +kernel, by decide +kernel, Or.inl ⟨xa_pl 328 rfl rfl, Or.inl (xa_pl 329 rfl rfl)⟩, rfl⟩
set_option maxRecDepth 100000 in
theorem xa_mo28 : xa_mok (yX4_init, prog_6_method_1_code, 1, none, 4, 1) := ⟨xa_pl 93 rfl rfl, xa_pl 47 rfl rfl, by decide +kernel, by decide +kernel, by decide +kernel, Or.inl ⟨xa_pl 92 rfl rfl, Or.inr rfl⟩, rfl⟩
set_option maxRecDepth 100000 in
theorem xa_mo29 : xa_mok (yX4_clear, prog_6_method_2_code, 1, none, 4, 0) := ⟨xa_pl 314 rfl rfl, xa_pl 47 rfl rfl, by decide +kernel, by decide +kernel, by decide +kernel, Or.inl ⟨xa_pl 312 rfl rfl, Or.inl (xa_pl 313 rfl rfl)⟩, rfl⟩
set_option maxRecDepth 100000 in
theorem xa_mo30 : xa_mok (yX4_copy, prog_6_method_3_code, 2, none, 4, 2) := ⟨xa_pl 428 rfl rfl, xa_pl 47 rfl rfl, by decide +kernel, by decide +kernel, by decide +kernel, Or.inl ⟨xa_pl 426 rfl rfl, Or.inl (xa_pl 427 rfl rfl)⟩, rfl⟩
set_option maxRecDepth 100000 in
theorem xa_mo31 : xa_mok (yX4_accepts, prog_6_method_4_code, 4, some .boolean, 4, 2) := ⟨xa_pl 334 rfl rfl, xa_pl 47 rfl rfl, by decide +kernel, by decide +kernel, by decide +kernel, Or.inl ⟨xa_pl 332 rfl rfl, Or.inl (xa_pl 333 rfl rfl)⟩, rfl⟩
set_option maxRecDepth 100000 in
theorem xa_mo32 : xa_mok (yX4_acceptsWanted, prog_6_method_5_code, 2, some .boolean, 4, 1) := ⟨xa_pl 338 rfl rfl, xa_pl 47 rfl rfl, by decide +kernel, by decide +kernel, by decide +kernel, Or.inl ⟨xa_pl 336 rfl rfl, Or.inl (xa_pl 337 rfl rfl)⟩, rfl⟩
set_option maxRecDepth 100000 in
theorem xa_mo33 : xa_mok (yX4_acceptsQuarters, prog_6_method_6_code, 2, some .boolean, 4, 1) := ⟨xa_pl 345 rfl rfl, xa_pl 47 rfl rfl, by decide +kernel, by decide +kernel, by decide +kernel, Or.inl ⟨xa_pl 343 rfl rfl, Or.inl (xa_pl 344 rfl rfl)⟩, rfl⟩
set_option maxRecDepth 100000 in
theorem xa_mo34 : xa_mok (yX4_acceptsGuild, prog_6_method_7_code, 2, some .boolean, 4, 1) := ⟨xa_pl 349 rfl rfl, xa_pl 47 rfl rfl, by decide +kernel, by decide +kernel, by decide +kernel, Or.inl ⟨xa_pl 347 rfl rfl, Or.inl (xa_pl 348 rfl rfl)⟩, rfl⟩
set_option maxRecDepth 100000 in
theorem xa_mo35 : xa_mok (yX4_acceptsSerf, prog_6_method_8_code, 4, some .boolean, 4, 1) := ⟨xa_pl 353 rfl rfl, xa_pl 47 rfl rfl, by decide +kernel, by decide +kernel, by decide +kernel, Or.inl ⟨xa_pl 351 rfl rfl, Or.inl (xa_pl 352 rfl rfl)⟩, rfl⟩
set_option maxRecDepth 100000 in
theorem xa_mo36 : xa_mok (yX4_acceptsMan, prog_6_method_9_code, 4, some .boolean, 4, 1) := ⟨xa_pl 357 rfl rfl, xa_pl 47 rfl rfl, by decide +kernel, by decide +kernel, by decide +kernel, Or.inl ⟨xa_pl 355 rfl rfl, Or.inl (xa_pl 356 rfl rfl)⟩, rfl⟩
set_option maxRecDepth 100000 in
theorem xa_mo37 : xa_mok (yX4_addMan, prog_6_method_10_code, 4, some .boolean, 4, 0) := ⟨xa_pl 361 rfl rfl, xa_pl 47 rfl rfl, by decide +kernel, by decide +kernel, by decide +kernel, Or.inl ⟨xa_pl 359 rfl rfl, Or.inl (xa_pl 360 rfl rfl)⟩, rfl⟩
set_option maxRecDepth 100000 in
theorem xa_mo38 : xa_mok (yX4_acceptsNotch, prog_6_method_11_code, 3, some .boolean, 4, 1) := ⟨xa_pl 365 rfl rfl, xa_pl 47 rfl rfl, by decide +kernel, by decide +kernel, by decide +kernel, Or.inl ⟨xa_pl 363 rfl rfl, Or.inl (xa_pl 364 rfl rfl)⟩, rfl⟩
set_option maxRecDepth 100000 in
theorem xa_mo39 : xa_mok (yX4_hasGuild, prog_6_method_12_code, 2, some .boolean, 4, 0) := ⟨xa_pl 522 rfl rfl, xa_pl 47 rfl rfl, by decide +kernel, by decide +kernel, by decide +kernel, Or.inl ⟨xa_pl 520 rfl rfl, Or.inl (xa_pl 521 rfl rfl)⟩, rfl⟩
set_option maxRecDepth 100000 in
theorem xa_mo40 : xa_mok (yX4_onRing, prog_6_method_13_code, 2, some .int, 4, 0) := ⟨xa_pl 526 rfl rfl, xa_pl 47 rfl rfl, by decide +kernel, by decide +kernel, by decide +kernel, Or.inl ⟨xa_pl 524 rfl rfl, Or.inl (xa_pl 525 rfl rfl)⟩, rfl⟩
set_option maxRecDepth 100000 in
theorem xa_mo41 : xa_mok (yX4_areNext, prog_6_method_14_code, 3, some .boolean, 4, 1) := ⟨xa_pl 588 rfl rfl, xa_pl 47 rfl rfl, by decide +kernel, by decide +kernel, by decide +kernel, Or.inl ⟨xa_pl 586 rfl rfl, Or.inl (xa_pl 587 rfl rfl)⟩, rfl⟩
set_option maxRecDepth 100000 in
theorem xa_mo42 : xa_mok (yX4_provedFrom, prog_6_method_15_code, 4, some .int, 4, 1) := ⟨xa_pl 613 rfl rfl, xa_pl 47 rfl rfl, by decide +kernel, by decide +kernel, by decide +kernel, Or.inl ⟨xa_pl 611 rfl rfl, Or.inl (xa_pl 612 rfl rfl)⟩, rfl⟩
set_option maxRecDepth 100000 in
theorem xa_mo43 : xa_mok (yX5_init, prog_7_method_1_code, 1, none, 5, 1) := ⟨xa_pl 237 rfl rfl, xa_pl 52 rfl rfl, by decide +kernel, by decide +kernel, by decide +kernel, Or.inl ⟨xa_pl 236 rfl rfl, Or.inr rfl⟩, rfl⟩
set_option maxRecDepth 100000 in
theorem xa_mo44 : xa_mok (yX5_look, prog_7_method_2_code, 6, none, 5, 4) := ⟨xa_pl 568 rfl rfl, xa_pl 52 rfl rfl, by decide +kernel, by decide +kernel, by decide +kernel, Or.inl ⟨xa_pl 566 rfl rfl, Or.inl (xa_pl 567 rfl rfl)⟩, rfl⟩
set_option maxRecDepth 100000 in
theorem xa_mo45 : xa_mok (yX5_bitsFound, prog_7_method_3_code, 6, some .int, 5, 2) := ⟨xa_pl 574 rfl rfl, xa_pl 52 rfl rfl, by decide +kernel, by decide +kernel, by decide +kernel, Or.inl ⟨xa_pl 572 rfl rfl, Or.inl (xa_pl 573 rfl rfl)⟩, rfl⟩
set_option maxRecDepth 100000 in
theorem xa_mo46 : xa_mok (yX5_bitsReaching, prog_7_method_4_code, 5, some .int, 5, 3) := ⟨xa_pl 580 rfl rfl, xa_pl 52 rfl rfl, by decide +kernel, by decide +kernel, by decide +kernel, Or.inl ⟨xa_pl 578 rfl rfl, Or.inl (xa_pl 579 rfl rfl)⟩, rfl⟩
set_option maxRecDepth 100000 in
theorem xa_mo47 : xa_mok (yX5_lowestNear, prog_7_method_5_code, 5, some .int, 5, 2) := ⟨xa_pl 584 rfl rfl, xa_pl 52 rfl rfl, by decide +kernel, by decide +kernel, by decide +kernel, Or.inl ⟨xa_pl 582 rfl rfl, Or.inl (xa_pl 583 rfl rfl)⟩, rfl⟩
set_option maxRecDepth 100000 in
theorem xa_mo48 : xa_mok (yX5_quarterOn, prog_7_method_6_code, 7, some .int, 5, 3) := ⟨xa_pl 593 rfl rfl, xa_pl 52 rfl rfl, by decide +kernel, by decide +kernel, by decide +kernel, Or.inl ⟨xa_pl 591 rfl rfl, Or.inl (xa_pl 592 rfl rfl)⟩, rfl⟩
set_option maxRecDepth 100000 in
theorem xa_mo49 : xa_mok (yX6_init, prog_1_method_1_code, 2, none, 6, 4) := ⟨xa_pl 63 rfl rfl, xa_pl 45 rfl rfl, by decide +kernel, by decide +kernel, by decide +kernel, Or.inl ⟨xa_pl 62 rfl rfl, Or.inr rfl⟩, rfl⟩
set_option maxRecDepth 100000 in
theorem xa_mo50 : xa_mok (yX6_write, prog_1_method_2_code, 2, some .int, 6, 1) := ⟨xa_pl 411 rfl rfl, xa_pl 45 rfl rfl, by decide +kernel, by decide +kernel, by decide +kernel, Or.inl ⟨xa_pl 409 rfl rfl, Or.inl (xa_pl 410 rfl rfl)⟩, rfl⟩
set_option maxRecDepth 100000 in
theorem xa_mo51 : xa_mok (yX6_wipe, prog_1_method_3_code, 2, some .int, 6, 0) := ⟨xa_pl 416 rfl rfl, xa_pl 45 rfl rfl, by decide +kernel, by decide +kernel, by decide +kernel, Or.inl ⟨xa_pl 414 rfl rfl, Or.inl (xa_pl 415 rfl rfl)⟩, rfl⟩
set_option maxRecDepth 100000 in
theorem xa_mo52 : xa_mok (yX6_fault, prog_1_method_4_code, 1, some .int, 6, 4) := ⟨xa_pl 420 rfl rfl, xa_pl 45 rfl rfl, by decide +kernel, by decide +kernel, by decide +kernel, Or.inl ⟨xa_pl 418 rfl rfl, Or.inl (xa_pl 419 rfl rfl)⟩, rfl⟩
set_option maxRecDepth 100000 in
theorem xa_mo53 : xa_mok (yX6_lay, prog_1_method_5_code, 1, some .int, 6, 4) := ⟨xa_pl 424 rfl rfl, xa_pl 45 rfl rfl, by decide +kernel, by decide +kernel, by decide +kernel, Or.inl ⟨xa_pl 422 rfl rfl, Or.inl (xa_pl 423 rfl rfl)⟩, rfl⟩
set_option maxRecDepth 100000 in
theorem xa_mo54 : xa_mok (yX6_serf, prog_1_method_6_code, 3, some .int, 6, 2) := ⟨xa_pl 433 rfl rfl, xa_pl 45 rfl rfl, by decide +kernel, by decide +kernel, by decide +kernel, Or.inl ⟨xa_pl 431 rfl rfl, Or.inl (xa_pl 432 rfl rfl)⟩, rfl⟩
set_option maxRecDepth 100000 in
theorem xa_mo55 : xa_mok (yX6_man, prog_1_method_7_code, 3, some .int, 6, 2) := ⟨xa_pl 445 rfl rfl, xa_pl 45 rfl rfl, by decide +kernel, by decide +kernel, by decide +kernel, Or.inl ⟨xa_pl 443 rfl rfl, Or.inl (xa_pl 444 rfl rfl)⟩, rfl⟩
set_option maxRecDepth 100000 in
theorem xa_mo56 : xa_mok (yX6_move, prog_1_method_8_code, 3, some .int, 6, 4) := ⟨xa_pl 453 rfl rfl, xa_pl 45 rfl rfl, by decide +kernel, by decide +kernel, by decide +kernel, Or.inl ⟨xa_pl 451 rfl rfl, Or.inl (xa_pl 452 rfl rfl)⟩, rfl⟩
set_option maxRecDepth 100000 in
theorem xa_mo57 : xa_mok (yX6_leave, prog_1_method_9_code, 3, some .int, 6, 4) := ⟨xa_pl 485 rfl rfl, xa_pl 45 rfl rfl, by decide +kernel, by decide +kernel, by decide +kernel, Or.inl ⟨xa_pl 483 rfl rfl, Or.inl (xa_pl 484 rfl rfl)⟩, rfl⟩
set_option maxRecDepth 100000 in
theorem xa_mo58 : xa_mok (yX6_send, prog_1_method_10_code, 4, some .int, 6, 4) := ⟨xa_pl 493 rfl rfl, xa_pl 45 rfl rfl, by decide +kernel, by decide +kernel, by decide +kernel, Or.inl ⟨xa_pl 491 rfl rfl, Or.inl (xa_pl 492 rfl rfl)⟩, rfl⟩
set_option maxRecDepth 100000 in
theorem xa_mo59 : xa_mok (yX6_pass, prog_1_method_11_code, 3, some .int, 6, 5) := ⟨xa_pl 497 rfl rfl, xa_pl 45 rfl rfl, by decide +kernel, by decide +kernel, by decide +kernel, Or.inl ⟨xa_pl 495 rfl rfl, Or.inl (xa_pl 496 rfl rfl)⟩, rfl⟩
set_option maxRecDepth 100000 in
theorem xa_mo60 : xa_mok (yX6_undo, prog_1_method_12_code, 1, some .int, 6, 4) := ⟨xa_pl 534 rfl rfl, xa_pl 45 rfl rfl, by decide +kernel, by decide +kernel, by decide +kernel, Or.inl ⟨xa_pl 532 rfl rfl, Or.inl (xa_pl 533 rfl rfl)⟩, rfl⟩
set_option maxRecDepth 100000 in
theorem xa_mo61 : xa_mok (yX6_behind, prog_1_method_13_code, 4, some .int, 6, 5) := ⟨xa_pl 542 rfl rfl, xa_pl 45 rfl rfl, by decide +kernel, by decide +kernel, by decide +kernel, Or.inl ⟨xa_pl 540 rfl rfl, Or.inl (xa_pl 541 rfl rfl)⟩, rfl⟩
set_option maxRecDepth 100000 in
theorem xa_mo62 : xa_mok (yX6_ends, prog_1_method_14_code, 2, some .int, 6, 5) := ⟨xa_pl 547 rfl rfl, xa_pl 45 rfl rfl, by decide +kernel, by decide +kernel, by decide +kernel, Or.inl ⟨xa_pl 545 rfl rfl, Or.inl (xa_pl 546 rfl rfl)⟩, rfl⟩
set_option maxRecDepth 100000 in
theorem xa_mo63 : xa_mok (yX6_live, prog_1_method_15_code, 7, some .int, 6, 6) := ⟨xa_pl 556 rfl rfl, xa_pl 45 rfl rfl, by decide +kernel, by decide +kernel, by decide +kernel, Or.inl ⟨xa_pl 554 rfl rfl, Or.inl (xa_pl 555 rfl rfl)⟩, rfl⟩
set_option maxRecDepth 100000 in
theorem xa_mo64 : xa_mok (yX6_way, prog_1_method_16_code, 3, some .int, 6, 5) := ⟨xa_pl 564 rfl rfl, xa_pl 45 rfl rfl, by decide +kernel, by decide +kernel, by decide +kernel, Or.inl ⟨xa_pl 562 rfl rfl, Or.inl (xa_pl 563 rfl rfl)⟩, rfl⟩
set_option maxRecDepth 100000 in
theorem xa_mo65 : xa_mok (yX6_hunt, prog_1_method_17_code, 8, some .int, 6, 5) := ⟨xa_pl 597 rfl rfl, xa_pl 45 rfl rfl, by decide +kernel, by decide +kernel, by decide +kernel, Or.inl ⟨xa_pl 595 rfl rfl, Or.inl (xa_pl 596 rfl rfl)⟩, rfl⟩
set_option maxRecDepth 100000 in
theorem xa_mo66 : xa_mok (yX6_proof, prog_1_method_18_code, 7, some .int, 6, 2) := ⟨xa_pl 606 rfl rfl, xa_pl 45 rfl rfl, by decide +kernel, by decide +kernel, by decide +kernel, Or.inl ⟨xa_pl 604 rfl rfl, Or.inl (xa_pl 605 rfl rfl)⟩, rfl⟩
set_option maxRecDepth 100000 in
theorem xa_mo67 : xa_mok (yX6_gap, prog_1_method_19_code, 4, some .int, 6, 2) := ⟨xa_pl 618 rfl rfl, xa_pl 45 rfl rfl, by decide +kernel, by decide +kernel, by decide +kernel, Or.inl ⟨xa_pl 616 rfl rfl, Or.inl (xa_pl 617 rfl rfl)⟩, rfl⟩
set_option maxRecDepth 100000 in
theorem xa_mo68 : xa_mok (yX6_seen, prog_1_method_20_code, 4, some .int, 6, 2) := ⟨xa_pl 622 rfl rfl, xa_pl 45 rfl rfl, by decide +kernel, by decide +kernel, by decide +kernel, Or.inl ⟨xa_pl 620 rfl rfl, Or.inl (xa_pl 621 rfl rfl)⟩, rfl⟩
set_option maxRecDepth 100000 in
theorem xa_mo69 : xa_mok (yX6_forget, prog_1_method_21_code, 2, some .int, 6, 0) := ⟨xa_pl 630 rfl rfl, xa_pl 45 rfl rfl, by decide +kernel, by decide +kernel, by decide +kernel, Or.inl ⟨xa_pl 628 rfl rfl, Or.inl (xa_pl 629 rfl rfl)⟩, rfl⟩
set_option maxRecDepth 100000 in
theorem xa_mo70 : xa_mok (yX6_lords, prog_1_method_22_code, 4, some .int, 6, 5) := ⟨xa_pl 634 rfl rfl, xa_pl 45 rfl rfl, by decide +kernel, by decide +kernel, by decide +kernel, Or.inl ⟨xa_pl 632 rfl rfl, Or.inl (xa_pl 633 rfl rfl)⟩, rfl⟩
set_option maxRecDepth 100000 in
theorem xa_mo71 : xa_mok (yX6_leap, prog_1_method_23_code, 3, some .int, 6, 6) := ⟨xa_pl 646 rfl rfl, xa_pl 45 rfl rfl, by decide +kernel, by decide +kernel, by decide +kernel, Or.inl ⟨xa_pl 644 rfl rfl, Or.inl (xa_pl 645 rfl rfl)⟩, rfl⟩
set_option maxRecDepth 100000 in
theorem xa_mo72 : xa_mok (yX6_sure, prog_1_method_24_code, 8, some .int, 6, 1) := ⟨xa_pl 654 rfl rfl, xa_pl 45 rfl rfl, by decide +kernel, by decide +kernel, by decide +kernel, Or.inl ⟨xa_pl 652 rfl rfl, Or.inl (xa_pl 653 rfl rfl)⟩, rfl⟩
set_option maxRecDepth 100000 in
theorem xa_mo73 : xa_mok (yX6_year, prog_1_method_25_code, 5, some .int, 6, 4) := ⟨xa_pl 664 rfl rfl, xa_pl 45 rfl rfl, by decide +kernel, by decide +kernel, by decide +kernel, Or.inl ⟨xa_pl 662 rfl rfl, Or.inl (xa_pl 663 rfl rfl)⟩, rfl⟩
set_option maxRecDepth 100000 in
theorem xa_mo74 : xa_mok (yX6_keep, prog_1_method_26_code, 1, some .int, 6, 4) := ⟨xa_pl 680 rfl rfl, xa_pl 45 rfl rfl, by decide +kernel, by decide +kernel, by decide +kernel, Or.inl ⟨xa_pl 678 rfl rfl, Or.inl (xa_pl 679 rfl rfl)⟩, rfl⟩
set_option maxRecDepth 100000 in
theorem xa_mo75 : xa_mok (yX6_back, prog_1_method_27_code, 1, some .int, 6, 4) := ⟨xa_pl 684 rfl rfl, xa_pl 45 rfl rfl, by decide +kernel, by decide +kernel, by decide +kernel, Or.inl ⟨xa_pl 682 rfl rfl, Or.inl (xa_pl 683 rfl rfl)⟩, rfl⟩
set_option maxRecDepth 100000 in
theorem xa_mo76 : xa_mok (yX6_count, prog_1_method_28_code, 2, some .int, 6, 1) := ⟨xa_pl 688 rfl rfl, xa_pl 45 rfl rfl, by decide +kernel, by decide +kernel, by decide +kernel, Or.inl ⟨xa_pl 686 rfl rfl, Or.inl (xa_pl 687 rfl rfl)⟩, rfl⟩
set_option maxRecDepth 100000 in
theorem xa_mo77 : xa_mok (yX6_isNot, prog_1_method_29_code, 3, some .boolean, 6, 0) := ⟨xa_pl 341 rfl rfl, xa_pl 45 rfl rfl, by decide +kernel, by decide +kernel, by decide +kernel, Or.inr (xa_pl 340 rfl rfl), rfl⟩
set_option maxRecDepth 100000 in
theorem xa_mo78 : xa_mok (yX6_isNoSerf, prog_1_method_30_code, 2, some .boolean, 6, 1) := ⟨xa_pl 437 rfl rfl, xa_pl 45 rfl rfl, by decide +kernel, by decide +kernel, by decide +kernel, Or.inl ⟨xa_pl 436 rfl rfl, Or.inl (xa_pl 0 rfl rfl)⟩, rfl⟩
set_option maxRecDepth 100000 in
theorem xa_mo79 : xa_mok (yX6_isNoMan, prog_1_method_31_code, 2, some .boolean, 6, 1) := ⟨xa_pl 449 rfl rfl, xa_pl 45 rfl rfl, by decide +kernel, by decide +kernel, by decide +kernel, Or.inl ⟨xa_pl 448 rfl rfl, Or.inl (xa_pl 1 rfl rfl)⟩, rfl⟩
set_option maxRecDepth 100000 in
theorem xa_mo80 : xa_mok (yX6_isNoQuarter, prog_1_method_32_code, 2, some .boolean, 6, 1) := ⟨xa_pl 457 rfl rfl, xa_pl 45 rfl rfl, by decide +kernel, by decide +kernel, by decide +kernel, Or.inl ⟨xa_pl 456 rfl rfl, Or.inl (xa_pl 2 rfl rfl)⟩, rfl⟩
set_option maxRecDepth 100000 in
theorem xa_mo81 : xa_mok (yX6_areNoDays, prog_1_method_33_code, 2, some .boolean, 6, 1) := ⟨xa_pl 609 rfl rfl, xa_pl 45 rfl rfl, by decide +kernel, by decide +kernel, by decide +kernel, Or.inr (xa_pl 608 rfl rfl), rfl⟩
set_option maxRecDepth 100000 in
theorem xa_mo82 : xa_mok (yX6_daysToEnd, prog_1_method_34_code, 3, some .int, 6, 4) := ⟨xa_pl 551 rfl rfl, xa_pl 45 rfl rfl, by decide +kernel, by decide +kernel, by decide +kernel, Or.inl ⟨xa_pl 550 rfl rfl, Or.inl (xa_pl 3 rfl rfl)⟩, rfl⟩
set_option maxRecDepth 100000 in
theorem xa_mo83 : xa_mok (yX6_daysToFree, prog_1_method_35_code, 4, some .int, 6, 5) := ⟨xa_pl 560 rfl rfl, xa_pl 45 rfl rfl, by decide +kernel, by decide +kernel, by decide +kernel, Or.inl ⟨xa_pl 559 rfl rfl, Or.inl (xa_pl 4 rfl rfl)⟩, rfl⟩
set_option maxRecDepth 100000 in
theorem xa_mo84 : xa_mok (yX6_takenWithOneMore, prog_1_method_36_code, 5, some .int, 6, 4) := ⟨xa_pl 601 rfl rfl, xa_pl 45 rfl rfl, by decide +kernel, by decide +kernel, by decide +kernel, Or.inl ⟨xa_pl 600 rfl rfl, Or.inl (xa_pl 5 rfl rfl)⟩, rfl⟩
set_option maxRecDepth 100000 in
theorem xa_mo85 : xa_mok (yX6_couldBeOf, prog_1_method_37_code, 4, some .boolean, 6, 4) := ⟨xa_pl 638 rfl rfl, xa_pl 45 rfl rfl, by decide +kernel, by decide +kernel, by decide +kernel, Or.inl ⟨xa_pl 637 rfl rfl, Or.inl (xa_pl 6 rfl rfl)⟩, rfl⟩
set_option maxRecDepth 100000 in
theorem xa_mo86 : xa_mok (yX6_freeBehind, prog_1_method_38_code, 4, some .int, 6, 5) := ⟨xa_pl 650 rfl rfl, xa_pl 45 rfl rfl, by decide +kernel, by decide +kernel, by decide +kernel, Or.inl ⟨xa_pl 649 rfl rfl, Or.inl (xa_pl 7 rfl rfl)⟩, rfl⟩
set_option maxRecDepth 100000 in
theorem xa_mo87 : xa_mok (yX6_draw, prog_1_method_39_code, 4, some .int, 6, 0) := ⟨xa_pl 667 rfl rfl, xa_pl 45 rfl rfl, by decide +kernel, by decide +kernel, by decide +kernel, Or.inr (xa_pl 666 rfl rfl), rfl⟩
set_option maxRecDepth 100000 in
theorem xa_mo88 : xa_mok (yX6_actByDraw, prog_1_method_40_code, 4, none, 6, 1) := ⟨xa_pl 675 rfl rfl, xa_pl 45 rfl rfl, by decide +kernel, by decide +kernel, by decide +kernel, Or.inl ⟨xa_pl 674 rfl rfl, Or.inl (xa_pl 8 rfl rfl)⟩, rfl⟩
set_option maxRecDepth 100000 in
theorem xa_mo89 : xa_mok (yX6_power, prog_1_method_41_code, 4, some .int, 6, 0) := ⟨xa_pl 657 rfl rfl, xa_pl 45 rfl rfl, by decide +kernel, by decide +kernel, by decide +kernel, Or.inr (xa_pl 656 rfl rfl), rfl⟩
set_option maxRecDepth 100000 in
theorem xa_mo90 : xa_mok (yX6_commonDivisor, prog_1_method_42_code, 6, some .int, 6, 0) := ⟨xa_pl 660 rfl rfl, xa_pl 45 rfl rfl, by decide +kernel, by decide +kernel, by decide +kernel, Or.inr (xa_pl 659 rfl rfl), rfl⟩
set_option maxRecDepth 100000 in
theorem xa_mo91 : xa_mok (yX6_copyRow, prog_1_method_43_code, 2, none, 6, 1) := ⟨xa_pl 372 rfl rfl, xa_pl 45 rfl rfl, by decide +kernel, by decide +kernel, by decide +kernel, Or.inr (xa_pl 371 rfl rfl), rfl⟩
set_option maxRecDepth 100000 in
theorem xa_mo92 : xa_mok (yX7_in, prog_9_method_2_code, 6, some .boolean, 7, 0) := ⟨xa_pl 776 rfl rfl, xa_pl 58 rfl rfl, by decide +kernel, by decide +kernel, by decide +kernel, Or.inr (xa_pl 775 rfl rfl), rfl⟩
set_option maxRecDepth 100000 in
theorem xa_mo93 : xa_mok (yX7_init, prog_9_method_3_code, 1, none, 7, 1) := ⟨xa_pl 693 rfl rfl, xa_pl 58 rfl rfl, by decide +kernel, by decide +kernel, by decide +kernel, Or.inl ⟨xa_pl 692 rfl rfl, Or.inr rfl⟩, rfl⟩
set_option maxRecDepth 100000 in
theorem xa_mo94 : xa_mok (yX7_serfIs, prog_9_method_4_code, 5, none, 7, 0) := ⟨xa_pl 698 rfl rfl, xa_pl 58 rfl rfl, by decide +kernel, by decide +kernel, by decide +kernel, Or.inl ⟨xa_pl 697 rfl rfl, Or.inl (xa_pl 9 rfl rfl)⟩, rfl⟩
set_option maxRecDepth 100000 in
theorem xa_mo95 : xa_mok (yX7_firstDay, prog_9_method_5_code, 3, none, 7, 0) := ⟨xa_pl 702 rfl rfl, xa_pl 58 rfl rfl, by decide +kernel, by decide +kernel, by decide +kernel, Or.inl ⟨xa_pl 701 rfl rfl, Or.inl (xa_pl 10 rfl rfl)⟩, rfl⟩
set_option maxRecDepth 100000 in
theorem xa_mo96 : xa_mok (yX7_isSerf, prog_9_method_6_code, 2, some .boolean, 7, 1) := ⟨xa_pl 827 rfl rfl, xa_pl 58 rfl rfl, by decide +kernel, by decide +kernel, by decide +kernel, Or.inl ⟨xa_pl 826 rfl rfl, Or.inl (xa_pl 18 rfl rfl)⟩, rfl⟩
set_option maxRecDepth 100000 in
theorem xa_mo97 : xa_mok (yX7_isMan, prog_9_method_7_code, 2, some .boolean, 7, 1) := ⟨xa_pl 860 rfl rfl, xa_pl 58 rfl rfl, by decide +kernel, by decide +kernel, by decide +kernel, Or.inl ⟨xa_pl 859 rfl rfl, Or.inl (xa_pl 25 rfl rfl)⟩, rfl⟩
set_option maxRecDepth 100000 in
theorem xa_mo98 : xa_mok (yX7_isQuarter, prog_9_method_8_code, 2, some .boolean, 7, 1) := ⟨xa_pl 869 rfl rfl, xa_pl 58 rfl rfl, by decide +kernel, by decide +kernel, by decide +kernel, Or.inl ⟨xa_pl 868 rfl rfl, Or.inl (xa_pl 26 rfl rfl)⟩, rfl⟩
set_option maxRecDepth 100000 in
theorem xa_mo99 : xa_mok (yX7_how, prog_9_method_9_code, 2, some .int, 7, 0) := ⟨xa_pl 832 rfl rfl, xa_pl 58 rfl rfl, by decide +kernel, by decide +kernel, by decide +kernel, Or.inl ⟨xa_pl 831 rfl rfl, Or.inl (xa_pl 19 rfl rfl)⟩, rfl⟩
set_option maxRecDepth 100000 in
theorem xa_mo100 : xa_mok (yX7_quarter, prog_9_method_10_code, 2, some .int, 7, 0) := ⟨xa_pl 836 rfl rfl, xa_pl 58 rfl rfl, by decide +kernel, by decide +kernel, by decide +kernel, Or.inl ⟨xa_pl 835 rfl rfl, Or.inl (xa_pl 20 rfl rfl)⟩, rfl⟩
set_option maxRecDepth 100000 in
theorem xa_mo101 : xa_mok (yX7_stayed, prog_9_method_11_code, 2, some .int, 7, 0) := ⟨xa_pl 840 rfl rfl, xa_pl 58 rfl rfl, by decide +kernel, by decide +kernel, by decide +kernel, Or.inl ⟨xa_pl 839 rfl rfl, Or.inl (xa_pl 21 rfl rfl)⟩, rfl⟩
set_option maxRecDepth 100000 in
theorem xa_mo102 : xa_mok (yX7_met, prog_9_method_12_code, 2, some .int, 7, 0) := ⟨xa_pl 844 rfl rfl, xa_pl 58 rfl rfl, by decide +kernel, by decide +kernel, by decide +kernel, Or.inl ⟨xa_pl 843 rfl rfl, Or.inl (xa_pl 22 rfl rfl)⟩, rfl⟩
set_option maxRecDepth 100000 in
theorem xa_mo103 : xa_mok (yX7_kind, prog_9_method_13_code, 2, some .int, 7, 0) := ⟨xa_pl 914 rfl rfl, xa_pl 58 rfl rfl, by decide +kernel, by decide +kernel, by decide +kernel, Or.inl ⟨xa_pl 913 rfl rfl, Or.inl (xa_pl 34 rfl rfl)⟩, rfl⟩
set_option maxRecDepth 100000 in
theorem xa_mo104 : xa_mok (yX7_lord, prog_9_method_14_code, 2, some .int, 7, 0) := ⟨xa_pl 848 rfl rfl, xa_pl 58 rfl rfl, by decide +kernel, by decide +kernel, by decide +kernel, Or.inl ⟨xa_pl 847 rfl rfl, Or.inl (xa_pl 23 rfl rfl)⟩, rfl⟩
set_option maxRecDepth 100000 in
theorem xa_mo105 : xa_mok (yX7_write, prog_9_method_15_code, 2, some .int, 7, 1) := ⟨xa_pl 771 rfl rfl, xa_pl 58 rfl rfl, by decide +kernel, by decide +kernel, by decide +kernel, Or.inl ⟨xa_pl 769 rfl rfl, Or.inl (xa_pl 770 rfl rfl)⟩, rfl⟩
set_option maxRecDepth 100000 in
theorem xa_mo106 : xa_mok (yX7_wipe, prog_9_method_16_code, 2, some .int, 7, 0) := ⟨xa_pl 780 rfl rfl, xa_pl 58 rfl rfl, by decide +kernel, by decide +kernel, by decide +kernel, Or.inl ⟨xa_pl 778 rfl rfl, Or.inl (xa_pl 779 rfl rfl)⟩, rfl⟩
set_option maxRecDepth 100000 in
theorem xa_mo107 : xa_mok (yX7_isFigure, prog_9_method_17_code, 1, some .boolean, 7, 1) := ⟨xa_pl 800 rfl rfl, xa_pl 58 rfl rfl, by decide +kernel, by decide +kernel, by decide +kernel, Or.inl ⟨xa_pl 799 rfl rfl, Or.inl (xa_pl 14 rfl rfl)⟩, rfl⟩
set_option maxRecDepth 100000 in
theorem xa_mo108 : xa_mok (yX7_number, prog_9_method_18_code, 5, some .boolean, 7, 2) := ⟨xa_pl 796 rfl rfl, xa_pl 58 rfl rfl, by decide +kernel, by decide +kernel, by decide +kernel, Or.inl ⟨xa_pl 795 rfl rfl, Or.inl (xa_pl 13 rfl rfl)⟩, rfl⟩
set_option maxRecDepth 100000 in
theorem xa_mo109 : xa_mok (yX7_readOne, prog_9_method_19_code, 5, some .boolean, 7, 3) := ⟨xa_pl 792 rfl rfl, xa_pl 58 rfl rfl, by decide +kernel, by decide +kernel, by decide +kernel, Or.inl ⟨xa_pl 791 rfl rfl, Or.inl (xa_pl 12 rfl rfl)⟩, rfl⟩
set_option maxRecDepth 100000 in
theorem xa_mo110 : xa_mok (yX7_readSerf, prog_9_method_20_code, 2, some .boolean, 7, 4) := ⟨xa_pl 806 rfl rfl, xa_pl 58 rfl rfl, by decide +kernel, by decide +kernel, by decide +kernel, Or.inl ⟨xa_pl 805 rfl rfl, Or.inl (xa_pl 15 rfl rfl)⟩, rfl⟩
set_option maxRecDepth 100000 in
theorem xa_mo111 : xa_mok (yX7_readMan, prog_9_method_21_code, 2, some .boolean, 7, 4) := ⟨xa_pl 810 rfl rfl, xa_pl 58 rfl rfl, by decide +kernel, by decide +kernel, by decide +kernel, Or.inl ⟨xa_pl 809 rfl rfl, Or.inl (xa_pl 16 rfl rfl)⟩, rfl⟩
set_option maxRecDepth 100000 in
theorem xa_mo112 : xa_mok (yX7_readNotch, prog_9_method_22_code, 2, some .boolean, 7, 4) := ⟨xa_pl 814 rfl rfl, xa_pl 58 rfl rfl, by decide +kernel, by decide +kernel, by decide +kernel, Or.inl ⟨xa_pl 813 rfl rfl, Or.inl (xa_pl 17 rfl rfl)⟩, rfl⟩
set_option maxRecDepth 100000 in
theorem xa_mo113 : xa_mok (yX7_item, prog_9_method_23_code, 3, some .boolean, 7, 5) := ⟨xa_pl 788 rfl rfl, xa_pl 58 rfl rfl, by decide +kernel, by decide +kernel, by decide +kernel, Or.inl ⟨xa_pl 787 rfl rfl, Or.inl (xa_pl 11 rfl rfl)⟩, rfl⟩
set_option maxRecDepth 100000 in
theorem xa_mo114 : xa_mok (yX7_fault, prog_9_method_24_code, 2, some .int, 7, 6) := ⟨xa_pl 784 rfl rfl, xa_pl 58 rfl rfl, by decide +kernel, by decide +kernel, by decide +kernel, Or.inl ⟨xa_pl 782 rfl rfl, Or.inl (xa_pl 783 rfl rfl)⟩, rfl⟩
set_option maxRecDepth 100000 in
theorem xa_mo115 : xa_mok (yX7_lay, prog_9_method_25_code, 2, some .int, 7, 7) := ⟨xa_pl 818 rfl rfl, xa_pl 58 rfl rfl, by decide +kernel, by decide +kernel, by decide +kernel, Or.inl ⟨xa_pl 816 rfl rfl, Or.inl (xa_pl 817 rfl rfl)⟩, rfl⟩
set_option maxRecDepth 100000 in
theorem xa_mo116 : xa_mok (yX7_men, prog_9_method_26_code, 5, some .int, 7, 0) := ⟨xa_pl 852 rfl rfl, xa_pl 58 rfl rfl, by decide +kernel, by decide +kernel, by decide +kernel, Or.inl ⟨xa_pl 851 rfl rfl, Or.inl (xa_pl 24 rfl rfl)⟩, rfl⟩
set_option maxRecDepth 100000 in
theorem xa_mo117 : xa_mok (yX7_isMet, prog_9_method_27_code, 6, some .boolean, 7, 1) := ⟨xa_pl 910 rfl rfl, xa_pl 58 rfl rfl, by decide +kernel, by decide +kernel, by decide +kernel, Or.inl ⟨xa_pl 909 rfl rfl, Or.inl (xa_pl 33 rfl rfl)⟩, rfl⟩
set_option maxRecDepth 100000 in
theorem xa_mo118 : xa_mok (yX7_goesBy, prog_9_method_28_code, 3, none, 7, 2) := ⟨xa_pl 906 rfl rfl, xa_pl 58 rfl rfl, by decide +kernel, by decide +kernel, by decide +kernel, Or.inl ⟨xa_pl 905 rfl rfl, Or.inl (xa_pl 32 rfl rfl)⟩, rfl⟩
set_option maxRecDepth 100000 in
theorem xa_mo119 : xa_mok (yX7_menGoOn, prog_9_method_29_code, 2, none, 7, 0) := ⟨xa_pl 918 rfl rfl, xa_pl 58 rfl rfl, by decide +kernel, by decide +kernel, by decide +kernel, Or.inl ⟨xa_pl 917 rfl rfl, Or.inl (xa_pl 35 rfl rfl)⟩, rfl⟩
set_option maxRecDepth 100000 in
theorem xa_mo120 : xa_mok (yX7_goesOn, prog_9_method_30_code, 3, none, 7, 3) := ⟨xa_pl 902 rfl rfl, xa_pl 58 rfl rfl, by decide +kernel, by decide +kernel, by decide +kernel, Or.inl ⟨xa_pl 901 rfl rfl, Or.inl (xa_pl 31 rfl rfl)⟩, rfl⟩
set_option maxRecDepth 100000 in
theorem xa_mo121 : xa_mok (yX7_many, prog_9_method_31_code, 4, some .int, 7, 1) := ⟨xa_pl 898 rfl rfl, xa_pl 58 rfl rfl, by decide +kernel, by decide +kernel, by decide +kernel, Or.inl ⟨xa_pl 897 rfl rfl, Or.inl (xa_pl 30 rfl rfl)⟩, rfl⟩
set_option maxRecDepth 100000 in
theorem xa_mo122 : xa_mok (yX7_serf, prog_9_method_32_code, 3, some .int, 7, 2) := ⟨xa_pl 823 rfl rfl, xa_pl 58 rfl rfl, by decide +kernel, by decide +kernel, by decide +kernel, Or.inl ⟨xa_pl 821 rfl rfl, Or.inl (xa_pl 822 rfl rfl)⟩, rfl⟩
set_option maxRecDepth 100000 in
theorem xa_mo123 : xa_mok (yX7_man, prog_9_method_33_code, 3, some .int, 7, 2) := ⟨xa_pl 856 rfl rfl, xa_pl 58 rfl rfl, by decide +kernel, by decide +kernel, by decide +kernel, Or.inl ⟨xa_pl 854 rfl rfl, Or.inl (xa_pl 855 rfl rfl)⟩, rfl⟩
set_option maxRecDepth 100000 in
theorem xa_mo124 : xa_mok (yX7_notes, prog_9_method_34_code, 2, none, 7, 0) := ⟨xa_pl 873 rfl rfl, xa_pl 58 rfl rfl, by decide +kernel, by decide +kernel, by decide +kernel, Or.inl ⟨xa_pl 872 rfl rfl, Or.inl (xa_pl 27 rfl rfl)⟩, rfl⟩
set_option maxRecDepth 100000 in
theorem xa_mo125 : xa_mok (yX7_moves, prog_9_method_35_code, 4, none, 7, 0) := ⟨xa_pl 877 rfl rfl, xa_pl 58 rfl rfl, by decide +kernel, by decide +kernel, by decide +kernel, Or.inl ⟨xa_pl 876 rfl rfl, Or.inl (xa_pl 28 rfl rfl)⟩, rfl⟩
set_option maxRecDepth 100000 in
theorem xa_mo126 : xa_mok (yX7_leaves, prog_9_method_36_code, 2, none, 7, 0) := ⟨xa_pl 885 rfl rfl, xa_pl 58 rfl rfl, by decide +kernel, by decide +kernel, by decide +kernel, Or.inl ⟨xa_pl 884 rfl rfl, Or.inl (xa_pl 29 rfl rfl)⟩, rfl⟩
set_option maxRecDepth 100000 in
theorem xa_mo127 : xa_mok (yX7_move, prog_9_method_37_code, 3, some .int, 7, 2) := ⟨xa_pl 865 rfl rfl, xa_pl 58 rfl rfl, by decide +kernel, by decide +kernel, by decide +kernel, Or.inl ⟨xa_pl 863 rfl rfl, Or.inl (xa_pl 864 rfl rfl)⟩, rfl⟩
set_option maxRecDepth 100000 in
theorem xa_mo128 : xa_mok (yX7_leave, prog_9_method_38_code, 3, some .int, 7, 2) := ⟨xa_pl 881 rfl rfl, xa_pl 58 rfl rfl, by decide +kernel, by decide +kernel, by decide +kernel, Or.inl ⟨xa_pl 879 rfl rfl, Or.inl (xa_pl 880 rfl rfl)⟩, rfl⟩
set_option maxRecDepth 100000 in
theorem xa_mo129 : xa_mok (yX7_send, prog_9_method_39_code, 4, some .int, 7, 2) := ⟨xa_pl 889 rfl rfl, xa_pl 58 rfl rfl, by decide +kernel, by decide +kernel, by decide +kernel, Or.inl ⟨xa_pl 887 rfl rfl, Or.inl (xa_pl 888 rfl rfl)⟩, rfl⟩
set_option maxRecDepth 100000 in
theorem xa_mo130 : xa_mok (yX7_pass, prog_9_method_40_code, 3, some .int, 7, 4) := ⟨xa_pl 893 rfl rfl, xa_pl 58 rfl rfl, by decide +kernel, by decide +kernel, by decide +kernel, Or.inl ⟨xa_pl 891 rfl rfl, Or.inl (xa_pl 892 rfl rfl)⟩, rfl⟩
set_option maxRecDepth 100000 in
theorem xa_mo131 : xa_mok (yX7_undo, prog_9_method_41_code, 2, some .int, 7, 0) := ⟨xa_pl 922 rfl rfl, xa_pl 58 rfl rfl, by decide +kernel, by decide +kernel, by decide +kernel, Or.inl ⟨xa_pl 920 rfl rfl, Or.inl (xa_pl 921 rfl rfl)⟩, rfl⟩
set_option maxRecDepth 100000 in
theorem xa_mo132 : xa_mok (yX7_asides, prog_9_method_42_code, 2, none, 7, 0) := ⟨xa_pl 931 rfl rfl, xa_pl 58 rfl rfl, by decide +kernel, by decide +kernel, by decide +kernel, Or.inl ⟨xa_pl 930 rfl rfl, Or.inl (xa_pl 36 rfl rfl)⟩, rfl⟩
set_option maxRecDepth 100000 in
theorem xa_mo133 : xa_mok (yX7_backs, prog_9_method_43_code, 2, none, 7, 0) := ⟨xa_pl 935 rfl rfl, xa_pl 58 rfl rfl, by decide +kernel, by decide +kernel, by decide +kernel, Or.inl ⟨xa_pl 934 rfl rfl, Or.inl (xa_pl 37 rfl rfl)⟩, rfl⟩
set_option maxRecDepth 100000 in
theorem xa_mo134 : xa_mok (yX7_behind, prog_9_method_44_code, 5, some .int, 7, 4) := ⟨xa_pl 926 rfl rfl, xa_pl 58 rfl rfl, by decide +kernel, by decide +kernel, by decide +kernel, Or.inl ⟨xa_pl 924 rfl rfl, Or.inl (xa_pl 925 rfl rfl)⟩, rfl⟩
set_option maxRecDepth 100000 in
theorem xa_mo135 : xa_mok (yX7_ends, prog_9_method_45_code, 3, some .int, 7, 3) := ⟨xa_pl 939 rfl rfl, xa_pl 58 rfl rfl, by decide +kernel, by decide +kernel, by decide +kernel, Or.inl ⟨xa_pl 937 rfl rfl, Or.inl (xa_pl 938 rfl rfl)⟩, rfl⟩
set_option maxRecDepth 100000 in
theorem xa_mo136 : xa_mok (yX7_freeBehind, prog_9_method_46_code, 4, some .int, 7, 3) := ⟨xa_pl 947 rfl rfl, xa_pl 58 rfl rfl, by decide +kernel, by decide +kernel, by decide +kernel, Or.inl ⟨xa_pl 946 rfl rfl, Or.inl (xa_pl 38 rfl rfl)⟩, rfl⟩
set_option maxRecDepth 100000 in
theorem xa_mo137 : xa_mok (yX7_live, prog_9_method_47_code, 8, some .int, 7, 4) := ⟨xa_pl 943 rfl rfl, xa_pl 58 rfl rfl, by decide +kernel, by decide +kernel, by decide +kernel, Or.inl ⟨xa_pl 941 rfl rfl, Or.inl (xa_pl 942 rfl rfl)⟩, rfl⟩
set_option maxRecDepth 100000 in
theorem xa_mo138 : xa_mok (yX7_spot, prog_9_method_48_code, 3, some .int, 7, 0) := ⟨xa_pl 958 rfl rfl, xa_pl 58 rfl rfl, by decide +kernel, by decide +kernel, by decide +kernel, Or.inr (xa_pl 957 rfl rfl), rfl⟩
set_option maxRecDepth 100000 in
theorem xa_mo139 : xa_mok (yX7_ways, prog_9_method_49_code, 10, none, 7, 2) := ⟨xa_pl 955 rfl rfl, xa_pl 58 rfl rfl, by decide +kernel, by decide +kernel, by decide +kernel, Or.inl ⟨xa_pl 954 rfl rfl, Or.inl (xa_pl 39 rfl rfl)⟩, rfl⟩
set_option maxRecDepth 100000 in
theorem xa_mo140 : xa_mok (yX7_way, prog_9_method_50_code, 11, some .int, 7, 3) := ⟨xa_pl 951 rfl rfl, xa_pl 58 rfl rfl, by decide +kernel, by decide +kernel, by decide +kernel, Or.inl ⟨xa_pl 949 rfl rfl, Or.inl (xa_pl 950 rfl rfl)⟩, rfl⟩
set_option maxRecDepth 100000 in
theorem xa_mo141 : xa_mok (yX7_hunt, prog_9_method_51_code, 8, some .int, 7, 4) := ⟨xa_pl 962 rfl rfl, xa_pl 58 rfl rfl, by decide +kernel, by decide +kernel, by decide +kernel, Or.inl ⟨xa_pl 960 rfl rfl, Or.inl (xa_pl 961 rfl rfl)⟩, rfl⟩
set_option maxRecDepth 100000 in
theorem xa_mo142 : xa_mok (yX7_isProved, prog_9_method_52_code, 5, some .boolean, 7, 1) := ⟨xa_pl 974 rfl rfl, xa_pl 58 rfl rfl, by decide +kernel, by decide +kernel, by decide +kernel, Or.inl ⟨xa_pl 973 rfl rfl, Or.inl (xa_pl 41 rfl rfl)⟩, rfl⟩
set_option maxRecDepth 100000 in
theorem xa_mo143 : xa_mok (yX7_gapOf, prog_9_method_53_code, 5, some .int, 7, 2) := ⟨xa_pl 970 rfl rfl, xa_pl 58 rfl rfl, by decide +kernel, by decide +kernel, by decide +kernel, Or.inl ⟨xa_pl 969 rfl rfl, Or.inl (xa_pl 40 rfl rfl)⟩, rfl⟩
set_option maxRecDepth 100000 in
theorem xa_mo144 : xa_mok (yX7_proof, prog_9_method_54_code, 7, some .int, 7, 3) := ⟨xa_pl 966 rfl rfl, xa_pl 58 rfl rfl, by decide +kernel, by decide +kernel, by decide +kernel, Or.inl ⟨xa_pl 964 rfl rfl, Or.inl (xa_pl 965 rfl rfl)⟩, rfl⟩
set_option maxRecDepth 100000 in
theorem xa_mo145 : xa_mok (yX7_gap, prog_9_method_55_code, 3, some .int, 7, 3) := ⟨xa_pl 978 rfl rfl, xa_pl 58 rfl rfl, by decide +kernel, by decide +kernel, by decide +kernel, Or.inl ⟨xa_pl 976 rfl rfl, Or.inl (xa_pl 977 rfl rfl)⟩, rfl⟩
set_option maxRecDepth 100000 in
theorem xa_mo146 : xa_mok (yX7_seen, prog_9_method_56_code, 4, some .int, 7, 2) := ⟨xa_pl 982 rfl rfl, xa_pl 58 rfl rfl, by decide +kernel, by decide +kernel, by decide +kernel, Or.inl ⟨xa_pl 980 rfl rfl, Or.inl (xa_pl 981 rfl rfl)⟩, rfl⟩
set_option maxRecDepth 100000 in
theorem xa_mo147 : xa_mok (yX7_forget, prog_9_method_57_code, 2, some .int, 7, 0) := ⟨xa_pl 987 rfl rfl, xa_pl 58 rfl rfl, by decide +kernel, by decide +kernel, by decide +kernel, Or.inl ⟨xa_pl 985 rfl rfl, Or.inl (xa_pl 986 rfl rfl)⟩, rfl⟩
set_option maxRecDepth 100000 in
theorem xa_mo148 : xa_mok (yX7_isSo, prog_9_method_58_code, 5, some .boolean, 7, 3) := ⟨xa_pl 995 rfl rfl, xa_pl 58 rfl rfl, by decide +kernel, by decide +kernel, by decide +kernel, Or.inl ⟨xa_pl 994 rfl rfl, Or.inl (xa_pl 42 rfl rfl)⟩, rfl⟩
set_option maxRecDepth 100000 in
theorem xa_mo149 : xa_mok (yX7_lords, prog_9_method_59_code, 4, some .int, 7, 4) := ⟨xa_pl 991 rfl rfl, xa_pl 58 rfl rfl, by decide +kernel, by decide +kernel, by decide +kernel, Or.inl ⟨xa_pl 989 rfl rfl, Or.inl (xa_pl 990 rfl rfl)⟩, rfl⟩
set_option maxRecDepth 100000 in
theorem xa_mo150 : xa_mok (yX7_freeSet, prog_9_method_60_code, 4, some .int, 7, 4) := ⟨xa_pl 1003 rfl rfl, xa_pl 58 rfl rfl, by decide +kernel, by decide +kernel, by decide +kernel, Or.inl ⟨xa_pl 1002 rfl rfl, Or.inl (xa_pl 43 rfl rfl)⟩, rfl⟩
set_option maxRecDepth 100000 in
theorem xa_mo151 : xa_mok (yX7_leap, prog_9_method_61_code, 3, some .int, 7, 5) := ⟨xa_pl 999 rfl rfl, xa_pl 58 rfl rfl, by decide +kernel, by decide +kernel, by decide +kernel, Or.inl ⟨xa_pl 997 rfl rfl, Or.inl (xa_pl 998 rfl rfl)⟩, rfl⟩
set_option maxRecDepth 100000 in
theorem xa_mo152 : xa_mok (yX7_sure, prog_9_method_62_code, 12, some .int, 7, 1) := ⟨xa_pl 1007 rfl rfl, xa_pl 58 rfl rfl, by decide +kernel, by decide +kernel, by decide +kernel, Or.inl ⟨xa_pl 1005 rfl rfl, Or.inl (xa_pl 1006 rfl rfl)⟩, rfl⟩
set_option maxRecDepth 100000 in
theorem xa_mo153 : xa_mok (yX7_year, prog_9_method_63_code, 10, some .int, 7, 3) := ⟨xa_pl 1013 rfl rfl, xa_pl 58 rfl rfl, by decide +kernel, by decide +kernel, by decide +kernel, Or.inl ⟨xa_pl 1011 rfl rfl, Or.inl (xa_pl 1012 rfl rfl)⟩, rfl⟩
set_option maxRecDepth 100000 in
theorem xa_mo154 : xa_mok (yX7_keep, prog_9_method_64_code, 2, some .int, 7, 0) := ⟨xa_pl 1021 rfl rfl, xa_pl 58 rfl rfl, by decide +kernel, by decide +kernel, by decide +kernel, Or.inl ⟨xa_pl 1019 rfl rfl, Or.inl (xa_pl 1020 rfl rfl)⟩, rfl⟩
set_option maxRecDepth 100000 in
theorem xa_mo155 : xa_mok (yX7_back, prog_9_method_65_code, 2, some .int, 7, 0) := ⟨xa_pl 1025 rfl rfl, xa_pl 58 rfl rfl, by decide +kernel, by decide +kernel, by decide +kernel, Or.inl ⟨xa_pl 1023 rfl rfl, Or.inl (xa_pl 1024 rfl rfl)⟩, rfl⟩
set_option maxRecDepth 100000 in
theorem xa_mo156 : xa_mok (yX7_count, prog_9_method_66_code, 2, some .int, 7, 2) := ⟨xa_pl 1029 rfl rfl, xa_pl 58 rfl rfl, by decide +kernel, by decide +kernel, by decide +kernel, Or.inl ⟨xa_pl 1027 rfl rfl, Or.inl (xa_pl 1028 rfl rfl)⟩, rfl⟩
set_option maxRecDepth 100000 in
theorem xa_mt_ok : ∀ q ∈ xa_mt, xa_mok q := List.forall_mem_cons.mpr ⟨xa_mo0, List.forall_mem_cons.mpr ⟨xa_mo1, List.forall_mem_cons.mpr ⟨xa_mo2, List.forall_mem_cons.mpr ⟨xa_mo3, List.forall_mem_cons.mpr ⟨xa_mo4, List.forall_mem_cons.mpr ⟨xa_mo5, List.forall_mem_cons.mpr ⟨xa_mo6, List.forall_mem_cons.mpr ⟨xa_mo7, List.forall_mem_cons.mpr ⟨xa_mo8, List.forall_mem_cons.mpr ⟨xa_mo9, List.forall_mem_cons.mpr ⟨xa_mo10, List.forall_mem_cons.mpr ⟨xa_mo11, List.forall_mem_cons.mpr ⟨xa_mo12, List.forall_mem_cons.mpr ⟨xa_mo13, List.forall_mem_cons.mpr ⟨xa_mo14, List.forall_mem_cons.mpr ⟨xa_mo15, List.forall_mem_cons.mpr ⟨xa_mo16, List.forall_mem_cons.mpr ⟨xa_mo17, List.forall_mem_cons.mpr ⟨xa_mo18, List.forall_mem_cons.mpr ⟨xa_mo19, List.forall_mem_cons.mpr ⟨xa_mo20, List.forall_mem_cons.mpr ⟨xa_mo21, List.forall_mem_cons.mpr ⟨xa_mo22, List.forall_mem_cons.mpr ⟨xa_mo23, List.forall_mem_cons.mpr ⟨xa_mo24, List.forall_mem_cons.mpr ⟨xa_mo25, List.forall_mem_cons.mpr ⟨xa_mo26, List.forall_mem_cons.mpr ⟨xa_mo27, List.forall_mem_cons.mpr ⟨xa_mo28, List.forall_mem_cons.mpr ⟨xa_mo29, List.forall_mem_cons.mpr ⟨xa_mo30, List.forall_mem_cons.mpr ⟨xa_mo31, List.forall_mem_cons.mpr ⟨xa_mo32, List.forall_mem_cons.mpr ⟨xa_mo33, List.forall_mem_cons.mpr ⟨xa_mo34, List.forall_mem_cons.mpr ⟨xa_mo35, List.forall_mem_cons.mpr ⟨xa_mo36, List.forall_mem_cons.mpr ⟨xa_mo37, List.forall_mem_cons.mpr ⟨xa_mo38, List.forall_mem_cons.mpr ⟨xa_mo39, List.forall_mem_cons.mpr ⟨xa_mo40, List.forall_mem_cons.mpr ⟨xa_mo41, List.forall_mem_cons.mpr ⟨xa_mo42, List.forall_mem_cons.mpr ⟨xa_mo43, List.forall_mem_cons.mpr ⟨xa_mo44, List.forall_mem_cons.mpr ⟨xa_mo45, List.forall_mem_cons.mpr ⟨xa_mo46, List.forall_mem_cons.mpr ⟨xa_mo47, List.forall_mem_cons.mpr ⟨xa_mo48, List.forall_mem_cons.mpr ⟨xa_mo49, List.forall_mem_cons.mpr ⟨xa_mo50, List.forall_mem_cons.mpr ⟨xa_mo51, List.forall_mem_cons.mpr ⟨xa_mo52, List.forall_mem_cons.mpr ⟨xa_mo53, List.forall_mem_cons.mpr ⟨xa_mo54, List.forall_mem_cons.mpr ⟨xa_mo55, List.forall_mem_cons.mpr ⟨xa_mo56, List.forall_mem_cons.mpr ⟨xa_mo57, List.forall_mem_cons.mpr ⟨xa_mo58, List.forall_mem_cons.mpr ⟨xa_mo59, List.forall_mem_cons.mpr ⟨xa_mo60, List.forall_mem_cons.mpr ⟨xa_mo61, List.forall_mem_cons.mpr ⟨xa_mo62, List.forall_mem_cons.mpr ⟨xa_mo63, List.forall_mem_cons.mpr ⟨xa_mo64, List.forall_mem_cons.mpr ⟨xa_mo65, List.forall_mem_cons.mpr ⟨xa_mo66, List.forall_mem_cons.mpr ⟨xa_mo67, List.forall_mem_cons.mpr ⟨xa_mo68, List.forall_mem_cons.mpr ⟨xa_mo69, List.forall_mem_cons.mpr ⟨xa_mo70, List.forall_mem_cons.mpr ⟨xa_mo71, List.forall_mem_cons.mpr ⟨xa_mo72, List.forall_mem_cons.mpr ⟨xa_mo73, List.forall_mem_cons.mpr ⟨xa_mo74, List.forall_mem_cons.mpr ⟨xa_mo75, List.forall_mem_cons.mpr ⟨xa_mo76, List.forall_mem_cons.mpr ⟨xa_mo77, List.forall_mem_cons.mpr ⟨xa_mo78, List.forall_mem_cons.mpr ⟨xa_mo79, List.forall_mem_cons.mpr ⟨xa_mo80, List.forall_mem_cons.mpr ⟨xa_mo81, List.forall_mem_cons.mpr ⟨xa_mo82, List.forall_mem_cons.mpr ⟨xa_mo83, List.forall_mem_cons.mpr ⟨xa_mo84, List.forall_mem_cons.mpr ⟨xa_mo85, List.forall_mem_cons.mpr ⟨xa_mo86, List.forall_mem_cons.mpr ⟨xa_mo87, List.forall_mem_cons.mpr ⟨xa_mo88, List.forall_mem_cons.mpr ⟨xa_mo89, List.forall_mem_cons.mpr ⟨xa_mo90, List.forall_mem_cons.mpr ⟨xa_mo91, List.forall_mem_cons.mpr ⟨xa_mo92, List.forall_mem_cons.mpr ⟨xa_mo93, List.forall_mem_cons.mpr ⟨xa_mo94, List.forall_mem_cons.mpr ⟨xa_mo95, List.forall_mem_cons.mpr ⟨xa_mo96, List.forall_mem_cons.mpr ⟨xa_mo97, List.forall_mem_cons.mpr ⟨xa_mo98, List.forall_mem_cons.mpr ⟨xa_mo99, List.forall_mem_cons.mpr ⟨xa_mo100, List.forall_mem_cons.mpr ⟨xa_mo101, List.forall_mem_cons.mpr ⟨xa_mo102, List.forall_mem_cons.mpr ⟨xa_mo103, List.forall_mem_cons.mpr ⟨xa_mo104, List.forall_mem_cons.mpr ⟨xa_mo105, List.forall_mem_cons.mpr ⟨xa_mo106, List.forall_mem_cons.mpr ⟨xa_mo107, List.forall_mem_cons.mpr ⟨xa_mo108, List.forall_mem_cons.mpr ⟨xa_mo109, List.forall_mem_cons.mpr ⟨xa_mo110, List.forall_mem_cons.mpr ⟨xa_mo111, List.forall_mem_cons.mpr ⟨xa_mo112, List.forall_mem_cons.mpr ⟨xa_mo113, List.forall_mem_cons.mpr ⟨xa_mo114, List.forall_mem_cons.mpr ⟨xa_mo115, List.forall_mem_cons.mpr ⟨xa_mo116, List.forall_mem_cons.mpr ⟨xa_mo117, List.forall_mem_cons.mpr ⟨xa_mo118, List.forall_mem_cons.mpr ⟨xa_mo119, List.forall_mem_cons.mpr ⟨xa_mo120, List.forall_mem_cons.mpr ⟨xa_mo121, List.forall_mem_cons.mpr ⟨xa_mo122, List.forall_mem_cons.mpr ⟨xa_mo123, List.forall_mem_cons.mpr ⟨xa_mo124, List.forall_mem_cons.mpr ⟨xa_mo125, List.forall_mem_cons.mpr ⟨xa_mo126, List.forall_mem_cons.mpr ⟨xa_mo127, List.forall_mem_cons.mpr ⟨xa_mo128, List.forall_mem_cons.mpr ⟨xa_mo129, List.forall_mem_cons.mpr ⟨xa_mo130, List.forall_mem_cons.mpr ⟨xa_mo131, List.forall_mem_cons.mpr ⟨xa_mo132, List.forall_mem_cons.mpr ⟨xa_mo133, List.forall_mem_cons.mpr ⟨xa_mo134, List.forall_mem_cons.mpr ⟨xa_mo135, List.forall_mem_cons.mpr ⟨xa_mo136, List.forall_mem_cons.mpr ⟨xa_mo137, List.forall_mem_cons.mpr ⟨xa_mo138, List.forall_mem_cons.mpr ⟨xa_mo139, List.forall_mem_cons.mpr ⟨xa_mo140, List.forall_mem_cons.mpr ⟨xa_mo141, List.forall_mem_cons.mpr ⟨xa_mo142, List.forall_mem_cons.mpr ⟨xa_mo143, List.forall_mem_cons.mpr ⟨xa_mo144, List.forall_mem_cons.mpr ⟨xa_mo145, List.forall_mem_cons.mpr ⟨xa_mo146, List.forall_mem_cons.mpr ⟨xa_mo147, List.forall_mem_cons.mpr ⟨xa_mo148, List.forall_mem_cons.mpr ⟨xa_mo149, List.forall_mem_cons.mpr ⟨xa_mo150, List.forall_mem_cons.mpr ⟨xa_mo151, List.forall_mem_cons.mpr ⟨xa_mo152, List.forall_mem_cons.mpr ⟨xa_mo153, List.forall_mem_cons.mpr ⟨xa_mo154, List.forall_mem_cons.mpr ⟨xa_mo155, List.forall_mem_cons.mpr ⟨xa_mo156, fun _ h => absurd h List.not_mem_nil⟩⟩⟩⟩⟩⟩⟩⟩⟩⟩⟩⟩⟩⟩⟩⟩⟩⟩⟩⟩⟩⟩⟩⟩⟩⟩⟩⟩⟩⟩⟩⟩⟩⟩⟩⟩⟩⟩⟩⟩⟩⟩⟩⟩⟩⟩⟩⟩⟩⟩⟩⟩⟩⟩⟩⟩⟩⟩⟩⟩⟩⟩⟩⟩⟩⟩⟩⟩⟩⟩⟩⟩⟩⟩⟩⟩⟩⟩⟩⟩⟩⟩⟩⟩⟩⟩⟩⟩⟩⟩⟩⟩⟩⟩⟩⟩⟩⟩⟩⟩⟩⟩⟩⟩⟩⟩⟩⟩⟩⟩⟩⟩⟩⟩⟩⟩⟩⟩⟩⟩⟩⟩⟩⟩⟩⟩⟩⟩⟩⟩⟩⟩⟩⟩⟩⟩⟩⟩⟩⟩⟩⟩⟩⟩⟩⟩⟩⟩⟩⟩⟩⟩⟩⟩⟩⟩⟩
