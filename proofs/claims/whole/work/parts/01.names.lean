/-! ===== BEGIN words of one list among another's, by their places ===== -/
theorem goodIn_r {big : List Cond} (ws : List Cond) (ps : List Nat) (hp : ws = ps.filterMap (fun i => big[i]?)) (h : ws.all goodWord = true) : GoodIn big ws := by
  intro w hw
  have h1 := List.all_eq_true.mp h w hw
  rw [hp] at hw
  obtain ⟨i, -, hi⟩ := List.mem_filterMap.mp hw
  have hm : w ∈ big := by first | exact List.mem_of_getElem? hi | exact List.getElem?_mem hi
  exact ⟨hm, good_of_word h1⟩
theorem goodIn_app {big a b : List Cond} (ha : GoodIn big a) (hb : GoodIn big b) : GoodIn big (a ++ b) := fun w h => (List.mem_append.mp h).elim (ha w) (hb w)
theorem goodIn_ca {big a b : List Cond} {c : Cond} (ha : GoodIn big (c :: a)) (hb : GoodIn big b) : GoodIn big (c :: (a ++ b)) := fun w h => (List.mem_cons.mp h).elim (fun e => ha w (List.mem_cons.mpr (Or.inl e))) (fun h => (List.mem_append.mp h).elim (fun h => ha w (List.mem_cons.mpr (Or.inr h))) (hb w))
theorem goodIn_sub {big ws : List Cond} (hm : ∀ w ∈ ws, w ∈ big) (h : ws.all goodWord = true) : GoodIn big ws := fun w hw => ⟨hm w hw, good_of_word (List.all_eq_true.mp h w hw)⟩
/-! ===== END ===== -/

/-! ===== BEGIN printed: names, fields, word lists, decode rows ===== -/
def RX0 : String := "NeighbourScores$Disk"
def TX0 : u_T := fun k => match k with
  | 0 => ("NeighbourScores$Disk", "words", "[I", true)
  | 1 => ("NeighbourScores$Disk", "powered", "Z", false)
  | _ => ("NeighbourScores$Disk", "wordsToFailure", "I", false)
def tyX0 : Nat → FieldType := fun k => match k with
  | 0 => .array .int
  | 1 => .boolean
  | _ => .int
abbrev wsX00 : List Cond := u_ws RX0 TX0 3
theorem nmX0 : ∀ a, a < 3 → ∀ b, b < 3 → a ≠ b → (TX0 a).2.1 ≠ (TX0 b).2.1 := by decide +kernel
theorem tyX0_ok : ∀ k, k < 3 → parseFieldDescriptor (TX0 k).2.2.1 = some (tyX0 k) := by decide +kernel
abbrev cX0_init : ByteArray := prog_2_method_1_code
def yX0_init : MethodName := ⟨RX0, "<init>", "()V"⟩
abbrev cX0_isPowered : ByteArray := prog_2_method_2_code
def yX0_isPowered : MethodName := ⟨RX0, "isPowered", "()Z"⟩
abbrev cX0_failAfter : ByteArray := prog_2_method_3_code
def yX0_failAfter : MethodName := ⟨RX0, "failAfter", "(I)V"⟩
abbrev cX0_switchOn : ByteArray := prog_2_method_4_code
def yX0_switchOn : MethodName := ⟨RX0, "switchOn", "()V"⟩
abbrev cX0_at : ByteArray := prog_2_method_5_code
def yX0_at : MethodName := ⟨RX0, "at", "(I)I"⟩
abbrev cX0_put : ByteArray := prog_2_method_6_code
def yX0_put : MethodName := ⟨RX0, "put", "(II)Z"⟩
abbrev cX0_writeRow : ByteArray := prog_2_method_7_code
def yX0_writeRow : MethodName := ⟨RX0, "writeRow", "(I[I)Z"⟩
abbrev cX0_isCheckRight : ByteArray := prog_2_method_8_code
def yX0_isCheckRight : MethodName := ⟨RX0, "isCheckRight", "(III)Z"⟩
abbrev cX0_checkOf : ByteArray := prog_2_method_9_code
def yX0_checkOf : MethodName := ⟨RX0, "checkOf", "([IIII)I"⟩
abbrev cX0_has : ByteArray := prog_2_method_10_code
def yX0_has : MethodName := ⟨RX0, "has", "(I)Z"⟩
abbrev cX0_writeWord : ByteArray := prog_2_method_11_code
def yX0_writeWord : MethodName := ⟨RX0, "writeWord", "(II)Z"⟩
abbrev cX0_mix : ByteArray := prog_2_method_12_code
def yX0_mix : MethodName := ⟨RX0, "mix", "(II)I"⟩
def RX1 : String := "NeighbourScores$Ranking"
def TX1 : u_T := fun k => match k with
  | 0 => ("NeighbourScores$Ranking", "items", "[I", true)
  | 1 => ("NeighbourScores$Ranking", "values", "[J", true)
  | _ => ("NeighbourScores$Ranking", "size", "I", false)
def tyX1 : Nat → FieldType := fun k => match k with
  | 0 => .array .int
  | 1 => .array .long
  | _ => .int
abbrev wsX10 : List Cond := u_ws RX1 TX1 3
theorem nmX1 : ∀ a, a < 3 → ∀ b, b < 3 → a ≠ b → (TX1 a).2.1 ≠ (TX1 b).2.1 := by decide +kernel
theorem tyX1_ok : ∀ k, k < 3 → parseFieldDescriptor (TX1 k).2.2.1 = some (tyX1 k) := by decide +kernel
abbrev cX1_init : ByteArray := prog_3_method_1_code
def yX1_init : MethodName := ⟨RX1, "<init>", "()V"⟩
abbrev cX1_clear : ByteArray := prog_3_method_2_code
def yX1_clear : MethodName := ⟨RX1, "clear", "()V"⟩
abbrev cX1_rankNeighbours : ByteArray := prog_3_method_3_code
def yX1_rankNeighbours : MethodName := ⟨RX1, "rankNeighbours", "(LNeighbourScores$Ratings;I)V"⟩
abbrev cX1_rankBest : ByteArray := prog_3_method_4_code
def yX1_rankBest : MethodName := ⟨RX1, "rankBest", "(LNeighbourScores$Ratings;I)V"⟩
abbrev cX1_has : ByteArray := prog_3_method_5_code
def yX1_has : MethodName := ⟨RX1, "has", "(I)Z"⟩
abbrev cX1_itemAt : ByteArray := prog_3_method_6_code
def yX1_itemAt : MethodName := ⟨RX1, "itemAt", "(I)I"⟩
abbrev cX1_valueAt : ByteArray := prog_3_method_7_code
def yX1_valueAt : MethodName := ⟨RX1, "valueAt", "(I)J"⟩
abbrev cX1_add : ByteArray := prog_3_method_8_code
def yX1_add : MethodName := ⟨RX1, "add", "(IJ)V"⟩
def RX2 : String := "NeighbourScores$Ratings"
def TX2 : u_T := fun k => match k with
  | 0 => ("NeighbourScores$Ratings", "table", "[[I", true)
  | _ => ("NeighbourScores$Ratings", "dots", "[[I", true)
def tyX2 : Nat → FieldType := fun k => match k with
  | 0 => .array (.array .int)
  | _ => .array (.array .int)
abbrev wsX20 : List Cond := u_ws RX2 TX2 2
theorem nmX2 : ∀ a, a < 2 → ∀ b, b < 2 → a ≠ b → (TX2 a).2.1 ≠ (TX2 b).2.1 := by decide +kernel
theorem tyX2_ok : ∀ k, k < 2 → parseFieldDescriptor (TX2 k).2.2.1 = some (tyX2 k) := by decide +kernel
abbrev cX2_init : ByteArray := prog_4_method_1_code
def yX2_init : MethodName := ⟨RX2, "<init>", "()V"⟩
abbrev cX2_at : ByteArray := prog_4_method_2_code
def yX2_at : MethodName := ⟨RX2, "at", "(II)I"⟩
abbrev cX2_set : ByteArray := prog_4_method_3_code
def yX2_set : MethodName := ⟨RX2, "set", "(III)V"⟩
abbrev cX2_clear : ByteArray := prog_4_method_4_code
def yX2_clear : MethodName := ⟨RX2, "clear", "()V"⟩
abbrev cX2_countRated : ByteArray := prog_4_method_5_code
def yX2_countRated : MethodName := ⟨RX2, "countRated", "()I"⟩
abbrev cX2_weightOf : ByteArray := prog_4_method_6_code
def yX2_weightOf : MethodName := ⟨RX2, "weightOf", "(II)I"⟩
abbrev cX2_shareOf : ByteArray := prog_4_method_7_code
def yX2_shareOf : MethodName := ⟨RX2, "shareOf", "(III)J"⟩
abbrev cX2_scoreOf : ByteArray := prog_4_method_8_code
def yX2_scoreOf : MethodName := ⟨RX2, "scoreOf", "(II)J"⟩
abbrev cX2_packed : ByteArray := prog_4_method_9_code
def yX2_packed : MethodName := ⟨RX2, "packed", "(II)I"⟩
abbrev cX2_unpack : ByteArray := prog_4_method_10_code
def yX2_unpack : MethodName := ⟨RX2, "unpack", "(III)V"⟩
def RX3 : String := "NeighbourScores$Reading"
def TX3 : u_T := fun k => match k with
  | 0 => ("NeighbourScores$Reading", "lists", "[LNeighbourScores$Ranking;", true)
  | 1 => ("NeighbourScores$Reading", "found", "[J", true)
  | _ => ("NeighbourScores$Reading", "entries", "I", false)
def tyX3 : Nat → FieldType := fun k => match k with
  | 0 => .array (.object "NeighbourScores$Ranking")
  | 1 => .array .long
  | _ => .int
abbrev wsX30 : List Cond := u_ws RX3 TX3 3
theorem nmX3 : ∀ a, a < 3 → ∀ b, b < 3 → a ≠ b → (TX3 a).2.1 ≠ (TX3 b).2.1 := by decide +kernel
theorem tyX3_ok : ∀ k, k < 3 → parseFieldDescriptor (TX3 k).2.2.1 = some (tyX3 k) := by decide +kernel
abbrev cX3_init : ByteArray := prog_5_method_1_code
def yX3_init : MethodName := ⟨RX3, "<init>", "()V"⟩
abbrev cX3_countEntries : ByteArray := prog_5_method_2_code
def yX3_countEntries : MethodName := ⟨RX3, "countEntries", "(LNeighbourScores$Ratings;II)I"⟩
abbrev cX3_begin : ByteArray := prog_5_method_3_code
def yX3_begin : MethodName := ⟨RX3, "begin", "(LNeighbourScores$Ratings;I)V"⟩
abbrev cX3_isEntryLeft : ByteArray := prog_5_method_4_code
def yX3_isEntryLeft : MethodName := ⟨RX3, "isEntryLeft", "(I)Z"⟩
abbrev cX3_readRound : ByteArray := prog_5_method_5_code
def yX3_readRound : MethodName := ⟨RX3, "readRound", "(LNeighbourScores$Ratings;II)J"⟩
abbrev cX3_find : ByteArray := prog_5_method_6_code
def yX3_find : MethodName := ⟨RX3, "find", "(LNeighbourScores$Ratings;II)V"⟩
abbrev cX3_countFoundAbove : ByteArray := prog_5_method_7_code
def yX3_countFoundAbove : MethodName := ⟨RX3, "countFoundAbove", "(J)I"⟩
def RX4 : String := "NeighbourScores$Records"
def TX4 : u_T := fun k => match k with
  | _ => ("NeighbourScores$Records", "row", "[I", true)
def tyX4 : Nat → FieldType := fun k => match k with
  | _ => .array .int
abbrev wsX40 : List Cond := u_ws RX4 TX4 1
theorem nmX4 : ∀ a, a < 1 → ∀ b, b < 1 → a ≠ b → (TX4 a).2.1 ≠ (TX4 b).2.1 := by decide +kernel
theorem tyX4_ok : ∀ k, k < 1 → parseFieldDescriptor (TX4 k).2.2.1 = some (tyX4 k) := by decide +kernel
abbrev cX4_init : ByteArray := prog_6_method_1_code
def yX4_init : MethodName := ⟨RX4, "<init>", "()V"⟩
abbrev cX4_writeRecord : ByteArray := prog_6_method_2_code
def yX4_writeRecord : MethodName := ⟨RX4, "writeRecord", "(LNeighbourScores$Disk;IIII)Z"⟩
abbrev cX4_holds : ByteArray := prog_6_method_3_code
def yX4_holds : MethodName := ⟨RX4, "holds", "(LNeighbourScores$Disk;I)Z"⟩
abbrev cX4_repeat : ByteArray := prog_6_method_4_code
def yX4_repeat : MethodName := ⟨RX4, "repeat", "(LNeighbourScores$Disk;ILNeighbourScores$Ratings;)V"⟩
abbrev cX4_namesRating : ByteArray := prog_6_method_5_code
def yX4_namesRating : MethodName := ⟨RX4, "namesRating", "(I)Z"⟩
abbrev cX4_userIn : ByteArray := prog_6_method_6_code
def yX4_userIn : MethodName := ⟨RX4, "userIn", "(I)I"⟩
abbrev cX4_itemIn : ByteArray := prog_6_method_7_code
def yX4_itemIn : MethodName := ⟨RX4, "itemIn", "(I)I"⟩
abbrev cX4_ratingIn : ByteArray := prog_6_method_8_code
def yX4_ratingIn : MethodName := ⟨RX4, "ratingIn", "(I)I"⟩
abbrev cX4_startOf : ByteArray := prog_6_method_9_code
def yX4_startOf : MethodName := ⟨RX4, "startOf", "(I)I"⟩
def RX5 : String := "NeighbourScores$Snapshots"
def TX5 : u_T := fun k => match k with
  | _ => ("NeighbourScores$Snapshots", "row", "[I", true)
def tyX5 : Nat → FieldType := fun k => match k with
  | _ => .array .int
abbrev wsX50 : List Cond := u_ws RX5 TX5 1
theorem nmX5 : ∀ a, a < 1 → ∀ b, b < 1 → a ≠ b → (TX5 a).2.1 ≠ (TX5 b).2.1 := by decide +kernel
theorem tyX5_ok : ∀ k, k < 1 → parseFieldDescriptor (TX5 k).2.2.1 = some (tyX5 k) := by decide +kernel
abbrev cX5_init : ByteArray := prog_7_method_1_code
def yX5_init : MethodName := ⟨RX5, "<init>", "()V"⟩
abbrev cX5_writeOverOlder : ByteArray := prog_7_method_2_code
def yX5_writeOverOlder : MethodName := ⟨RX5, "writeOverOlder", "(LNeighbourScores$Disk;ILNeighbourScores$Ratings;)Z"⟩
abbrev cX5_loadNewest : ByteArray := prog_7_method_3_code
def yX5_loadNewest : MethodName := ⟨RX5, "loadNewest", "(LNeighbourScores$Disk;LNeighbourScores$Ratings;)I"⟩
abbrev cX5_newest : ByteArray := prog_7_method_4_code
def yX5_newest : MethodName := ⟨RX5, "newest", "(LNeighbourScores$Disk;)I"⟩
abbrev cX5_isGood : ByteArray := prog_7_method_5_code
def yX5_isGood : MethodName := ⟨RX5, "isGood", "(LNeighbourScores$Disk;I)Z"⟩
abbrev cX5_startOf : ByteArray := prog_7_method_6_code
def yX5_startOf : MethodName := ⟨RX5, "startOf", "(I)I"⟩
abbrev cX5_placeOf : ByteArray := prog_7_method_7_code
def yX5_placeOf : MethodName := ⟨RX5, "placeOf", "(II)I"⟩
def RX6 : String := "NeighbourScores"
def TX6 : u_T := fun k => match k with
  | 0 => ("NeighbourScores", "disk", "LNeighbourScores$Disk;", true)
  | 1 => ("NeighbourScores", "snapshots", "LNeighbourScores$Snapshots;", true)
  | 2 => ("NeighbourScores", "records", "LNeighbourScores$Records;", true)
  | 3 => ("NeighbourScores", "ratings", "LNeighbourScores$Ratings;", true)
  | 4 => ("NeighbourScores", "ranking", "LNeighbourScores$Ranking;", true)
  | 5 => ("NeighbourScores", "reading", "LNeighbourScores$Reading;", true)
  | 6 => ("NeighbourScores", "systemNumber", "I", false)
  | _ => ("NeighbourScores", "baseNumber", "I", false)
def tyX6 : Nat → FieldType := fun k => match k with
  | 0 => .object "NeighbourScores$Disk"
  | 1 => .object "NeighbourScores$Snapshots"
  | 2 => .object "NeighbourScores$Records"
  | 3 => .object "NeighbourScores$Ratings"
  | 4 => .object "NeighbourScores$Ranking"
  | 5 => .object "NeighbourScores$Reading"
  | 6 => .int
  | _ => .int
abbrev wsX60 : List Cond := u_ws RX6 TX6 8
theorem nmX6 : ∀ a, a < 8 → ∀ b, b < 8 → a ≠ b → (TX6 a).2.1 ≠ (TX6 b).2.1 := by decide +kernel
theorem tyX6_ok : ∀ k, k < 8 → parseFieldDescriptor (TX6 k).2.2.1 = some (tyX6 k) := by decide +kernel
abbrev cX6_init : ByteArray := prog_1_method_1_code
def yX6_init : MethodName := ⟨RX6, "<init>", "()V"⟩
abbrev cX6_rate : ByteArray := prog_1_method_2_code
def yX6_rate : MethodName := ⟨RX6, "rate", "(III)I"⟩
abbrev cX6_snapshot : ByteArray := prog_1_method_3_code
def yX6_snapshot : MethodName := ⟨RX6, "snapshot", "()I"⟩
abbrev cX6_power : ByteArray := prog_1_method_4_code
def yX6_power : MethodName := ⟨RX6, "power", "(I)Z"⟩
abbrev cX6_restart : ByteArray := prog_1_method_5_code
def yX6_restart : MethodName := ⟨RX6, "restart", "()I"⟩
abbrev cX6_isOn : ByteArray := prog_1_method_6_code
def yX6_isOn : MethodName := ⟨RX6, "isOn", "()Z"⟩
abbrev cX6_word : ByteArray := prog_1_method_7_code
def yX6_word : MethodName := ⟨RX6, "word", "(I)I"⟩
abbrev cX6_spoil : ByteArray := prog_1_method_8_code
def yX6_spoil : MethodName := ⟨RX6, "spoil", "(II)Z"⟩
abbrev cX6_rating : ByteArray := prog_1_method_9_code
def yX6_rating : MethodName := ⟨RX6, "rating", "(II)I"⟩
abbrev cX6_weight : ByteArray := prog_1_method_10_code
def yX6_weight : MethodName := ⟨RX6, "weight", "(II)I"⟩
abbrev cX6_neighbour : ByteArray := prog_1_method_11_code
def yX6_neighbour : MethodName := ⟨RX6, "neighbour", "(II)I"⟩
abbrev cX6_score : ByteArray := prog_1_method_12_code
def yX6_score : MethodName := ⟨RX6, "score", "(II)J"⟩
abbrev cX6_best : ByteArray := prog_1_method_13_code
def yX6_best : MethodName := ⟨RX6, "best", "(II)I"⟩
abbrev cX6_reads : ByteArray := prog_1_method_14_code
def yX6_reads : MethodName := ⟨RX6, "reads", "(II)I"⟩
abbrev cX6_share : ByteArray := prog_1_method_15_code
def yX6_share : MethodName := ⟨RX6, "share", "(III)J"⟩
abbrev cX6_number : ByteArray := prog_1_method_16_code
def yX6_number : MethodName := ⟨RX6, "number", "(I)I"⟩
abbrev cX6_isUser : ByteArray := prog_1_method_17_code
def yX6_isUser : MethodName := ⟨RX6, "isUser", "(I)Z"⟩
abbrev cX6_isItem : ByteArray := prog_1_method_18_code
def yX6_isItem : MethodName := ⟨RX6, "isItem", "(I)Z"⟩
def RX7 : String := "NeighbourScoresModel"
def TX7 : u_T := fun k => match k with
  | 0 => ("NeighbourScoresModel", "rated", "[I", true)
  | 1 => ("NeighbourScoresModel", "disk", "[I", true)
  | 2 => ("NeighbourScoresModel", "current", "I", false)
  | 3 => ("NeighbourScoresModel", "base", "I", false)
  | 4 => ("NeighbourScoresModel", "dark", "Z", false)
  | 5 => ("NeighbourScoresModel", "left", "I", false)
  | 6 => ("NeighbourScoresModel", "weights", "[I", true)
  | 7 => ("NeighbourScoresModel", "scores", "[J", true)
  | _ => ("NeighbourScoresModel", "met", "[Z", true)
def tyX7 : Nat → FieldType := fun k => match k with
  | 0 => .array .int
  | 1 => .array .int
  | 2 => .int
  | 3 => .int
  | 4 => .boolean
  | 5 => .int
  | 6 => .array .int
  | 7 => .array .long
  | _ => .array .boolean
abbrev wsX70 : List Cond := u_ws RX7 TX7 9
theorem nmX7 : ∀ a, a < 9 → ∀ b, b < 9 → a ≠ b → (TX7 a).2.1 ≠ (TX7 b).2.1 := by decide +kernel
theorem tyX7_ok : ∀ k, k < 9 → parseFieldDescriptor (TX7 k).2.2.1 = some (tyX7 k) := by decide +kernel
abbrev cX7_init : ByteArray := prog_9_method_1_code
def yX7_init : MethodName := ⟨RX7, "<init>", "()V"⟩
abbrev cX7_mix : ByteArray := prog_9_method_2_code
def yX7_mix : MethodName := ⟨RX7, "mix", "(II)I"⟩
abbrev cX7_checked : ByteArray := prog_9_method_3_code
def yX7_checked : MethodName := ⟨RX7, "checked", "(III)I"⟩
abbrev cX7_noUser : ByteArray := prog_9_method_4_code
def yX7_noUser : MethodName := ⟨RX7, "noUser", "(I)Z"⟩
abbrev cX7_noItem : ByteArray := prog_9_method_5_code
def yX7_noItem : MethodName := ⟨RX7, "noItem", "(I)Z"⟩
abbrev cX7_put : ByteArray := prog_9_method_6_code
def yX7_put : MethodName := ⟨RX7, "put", "(II)V"⟩
abbrev cX7_rate : ByteArray := prog_9_method_7_code
def yX7_rate : MethodName := ⟨RX7, "rate", "(III)I"⟩
abbrev cX7_good : ByteArray := prog_9_method_8_code
def yX7_good : MethodName := ⟨RX7, "good", "(I)Z"⟩
abbrev cX7_packed : ByteArray := prog_9_method_9_code
def yX7_packed : MethodName := ⟨RX7, "packed", "(II)I"⟩
abbrev cX7_snapshot : ByteArray := prog_9_method_10_code
def yX7_snapshot : MethodName := ⟨RX7, "snapshot", "()I"⟩
abbrev cX7_power : ByteArray := prog_9_method_11_code
def yX7_power : MethodName := ⟨RX7, "power", "(I)Z"⟩
abbrev cX7_redo : ByteArray := prog_9_method_12_code
def yX7_redo : MethodName := ⟨RX7, "redo", "()Z"⟩
abbrev cX7_restart : ByteArray := prog_9_method_13_code
def yX7_restart : MethodName := ⟨RX7, "restart", "()I"⟩
abbrev cX7_isOn : ByteArray := prog_9_method_14_code
def yX7_isOn : MethodName := ⟨RX7, "isOn", "()Z"⟩
abbrev cX7_word : ByteArray := prog_9_method_15_code
def yX7_word : MethodName := ⟨RX7, "word", "(I)I"⟩
abbrev cX7_spoil : ByteArray := prog_9_method_16_code
def yX7_spoil : MethodName := ⟨RX7, "spoil", "(II)Z"⟩
abbrev cX7_dot : ByteArray := prog_9_method_17_code
def yX7_dot : MethodName := ⟨RX7, "dot", "(II)J"⟩
abbrev cX7_weigh : ByteArray := prog_9_method_18_code
def yX7_weigh : MethodName := ⟨RX7, "weigh", "()V"⟩
abbrev cX7_nearer : ByteArray := prog_9_method_19_code
def yX7_nearer : MethodName := ⟨RX7, "nearer", "(III)Z"⟩
abbrev cX7_entry : ByteArray := prog_9_method_20_code
def yX7_entry : MethodName := ⟨RX7, "entry", "(II)I"⟩
abbrev cX7_scoreAll : ByteArray := prog_9_method_21_code
def yX7_scoreAll : MethodName := ⟨RX7, "scoreAll", "(I)V"⟩
abbrev cX7_rating : ByteArray := prog_9_method_22_code
def yX7_rating : MethodName := ⟨RX7, "rating", "(II)I"⟩
abbrev cX7_weight : ByteArray := prog_9_method_23_code
def yX7_weight : MethodName := ⟨RX7, "weight", "(II)I"⟩
abbrev cX7_neighbour : ByteArray := prog_9_method_24_code
def yX7_neighbour : MethodName := ⟨RX7, "neighbour", "(II)I"⟩
abbrev cX7_score : ByteArray := prog_9_method_25_code
def yX7_score : MethodName := ⟨RX7, "score", "(II)J"⟩
abbrev cX7_offered : ByteArray := prog_9_method_26_code
def yX7_offered : MethodName := ⟨RX7, "offered", "(II)Z"⟩
abbrev cX7_best : ByteArray := prog_9_method_27_code
def yX7_best : MethodName := ⟨RX7, "best", "(II)I"⟩
abbrev cX7_above : ByteArray := prog_9_method_28_code
def yX7_above : MethodName := ⟨RX7, "above", "(IJ)I"⟩
abbrev cX7_reads : ByteArray := prog_9_method_29_code
def yX7_reads : MethodName := ⟨RX7, "reads", "(II)I"⟩
abbrev cX7_share : ByteArray := prog_9_method_30_code
def yX7_share : MethodName := ⟨RX7, "share", "(III)J"⟩
abbrev cX7_number : ByteArray := prog_9_method_31_code
def yX7_number : MethodName := ⟨RX7, "number", "(I)I"⟩
def RJ9 : String := "java/lang/Math"
def TJ9 : u_T := fun k => match k with
  | _ => ("", "", "", false)
def tyJ9 : Nat → FieldType := fun k => match k with
  | _ => .int
abbrev wsJ90 : List Cond := u_ws RJ9 TJ9 0
theorem nmJ9 : ∀ a, a < 0 → ∀ b, b < 0 → a ≠ b → (TJ9 a).2.1 ≠ (TJ9 b).2.1 := by decide +kernel
theorem tyJ9_ok : ∀ k, k < 0 → parseFieldDescriptor (TJ9 k).2.2.1 = some (tyJ9 k) := by decide +kernel
abbrev cJ9_floorMod_7cf53 : ByteArray := prog_10_method_50_code
def yJ9_floorMod_7cf53 : MethodName := ⟨RJ9, "floorMod", "(II)I"⟩
def RL : String := "NeighbourScoresLaw"
abbrev cL_law : ByteArray := code
def yL_law : MethodName := ⟨RL, "law", "([I)Z"⟩
def wsX0_mix : List Cond := .code yX0_mix cX0_mix 3 (some .int) :: ([.constant RX0 46 (668265263), .constant RX0 47 (374761393)])
def wsX0_checkOf : List Cond := .code yX0_checkOf cX0_checkOf 6 (some .int) :: ([.methodLink RX0 39 yX0_mix, .static yX0_mix, .initialized RX0, .code yX0_mix cX0_mix 3 (some .int), .constant RX0 46 (668265263), .constant RX0 47 (374761393)])
def wsX0_init : List Cond := .code yX0_init cX0_init 2 none :: ([.methodLink RX0 1 objectInit, .instanceMethod objectInit, .code objectInit ⟨#[0xb1]⟩ 1 none, .arrayClass .int, .fieldLink RX0 9 "NeighbourScores$Disk" "words" "[I", .fieldLink RX0 13 "NeighbourScores$Disk" "powered" "Z", .fieldLink RX0 17 "NeighbourScores$Disk" "wordsToFailure" "I", .methodLink RX0 23 yX0_checkOf, .static yX0_checkOf, .initialized RX0, .code yX0_checkOf cX0_checkOf 6 (some .int), .methodLink RX0 39 yX0_mix, .static yX0_mix, .code yX0_mix cX0_mix 3 (some .int), .constant RX0 46 (668265263), .constant RX0 47 (374761393)] ++ wsX00)
def wsX0_isPowered : List Cond := .code yX0_isPowered cX0_isPowered 1 (some .boolean) :: ([.fieldLink RX0 13 "NeighbourScores$Disk" "powered" "Z"] ++ wsX00)
def wsX0_failAfter : List Cond := .code yX0_failAfter cX0_failAfter 2 none :: ([.fieldLink RX0 17 "NeighbourScores$Disk" "wordsToFailure" "I"] ++ wsX00)
def wsX0_switchOn : List Cond := .code yX0_switchOn cX0_switchOn 1 none :: ([.fieldLink RX0 13 "NeighbourScores$Disk" "powered" "Z", .fieldLink RX0 17 "NeighbourScores$Disk" "wordsToFailure" "I"] ++ wsX00)
def wsX0_has : List Cond := .code yX0_has cX0_has 2 (some .boolean) :: ([])
def wsX0_at : List Cond := .code yX0_at cX0_at 2 (some .int) :: ([.fieldLink RX0 9 "NeighbourScores$Disk" "words" "[I", .methodLink RX0 27 yX0_has, .instanceMethod yX0_has, .selects RX0 yX0_has yX0_has, .initialized RX0, .code yX0_has cX0_has 2 (some .boolean)] ++ wsX00)
def wsX0_put : List Cond := .code yX0_put cX0_put 3 (some .boolean) :: ([.fieldLink RX0 9 "NeighbourScores$Disk" "words" "[I", .methodLink RX0 27 yX0_has, .instanceMethod yX0_has, .selects RX0 yX0_has yX0_has, .initialized RX0, .code yX0_has cX0_has 2 (some .boolean)] ++ wsX00)
def wsX0_writeWord : List Cond := .code yX0_writeWord cX0_writeWord 3 (some .boolean) :: ([.fieldLink RX0 17 "NeighbourScores$Disk" "wordsToFailure" "I", .fieldLink RX0 13 "NeighbourScores$Disk" "powered" "Z", .methodLink RX0 43 yX0_put, .instanceMethod yX0_put, .selects RX0 yX0_put yX0_put, .initialized RX0, .code yX0_put cX0_put 3 (some .boolean), .fieldLink RX0 9 "NeighbourScores$Disk" "words" "[I", .methodLink RX0 27 yX0_has, .instanceMethod yX0_has, .selects RX0 yX0_has yX0_has, .code yX0_has cX0_has 2 (some .boolean)] ++ wsX00)
def wsX0_writeRow : List Cond := .code yX0_writeRow cX0_writeRow 4 (some .boolean) :: ([.methodLink RX0 31 yX0_writeWord, .instanceMethod yX0_writeWord, .selects RX0 yX0_writeWord yX0_writeWord, .initialized RX0, .code yX0_writeWord cX0_writeWord 3 (some .boolean), .fieldLink RX0 17 "NeighbourScores$Disk" "wordsToFailure" "I", .fieldLink RX0 13 "NeighbourScores$Disk" "powered" "Z", .methodLink RX0 43 yX0_put, .instanceMethod yX0_put, .selects RX0 yX0_put yX0_put, .code yX0_put cX0_put 3 (some .boolean), .fieldLink RX0 9 "NeighbourScores$Disk" "words" "[I", .methodLink RX0 27 yX0_has, .instanceMethod yX0_has, .selects RX0 yX0_has yX0_has, .code yX0_has cX0_has 2 (some .boolean)] ++ wsX00)
def wsX0_isCheckRight : List Cond := .code yX0_isCheckRight cX0_isCheckRight 4 (some .boolean) :: ([.fieldLink RX0 9 "NeighbourScores$Disk" "words" "[I", .methodLink RX0 35 yX0_at, .instanceMethod yX0_at, .selects RX0 yX0_at yX0_at, .initialized RX0, .code yX0_at cX0_at 2 (some .int), .methodLink RX0 27 yX0_has, .instanceMethod yX0_has, .selects RX0 yX0_has yX0_has, .code yX0_has cX0_has 2 (some .boolean), .methodLink RX0 23 yX0_checkOf, .static yX0_checkOf, .code yX0_checkOf cX0_checkOf 6 (some .int), .methodLink RX0 39 yX0_mix, .static yX0_mix, .code yX0_mix cX0_mix 3 (some .int), .constant RX0 46 (668265263), .constant RX0 47 (374761393)] ++ wsX00)
def wsX1_init : List Cond := .code yX1_init cX1_init 1 none :: ([.methodLink RX1 3 objectInit, .instanceMethod objectInit, .code objectInit ⟨#[0xb1]⟩ 1 none, .arrayClass .int, .fieldLink RX1 9 "NeighbourScores$Ranking" "items" "[I", .arrayClass .long, .fieldLink RX1 15 "NeighbourScores$Ranking" "values" "[J", .fieldLink RX1 19 "NeighbourScores$Ranking" "size" "I"] ++ wsX10)
def wsX1_clear : List Cond := .code yX1_clear cX1_clear 1 none :: ([.fieldLink RX1 19 "NeighbourScores$Ranking" "size" "I"] ++ wsX10)
def wsX2_weightOf : List Cond := .code yX2_weightOf cX2_weightOf 7 (some .int) :: ([.fieldLink RX2 16 "NeighbourScores$Ratings" "dots" "[[I", .constantLong RX2 23 (1048576)] ++ wsX20)
def wsX1_add : List Cond := .code yX1_add cX1_add 5 none :: ([.fieldLink RX1 19 "NeighbourScores$Ranking" "size" "I", .fieldLink RX1 15 "NeighbourScores$Ranking" "values" "[J", .fieldLink RX1 9 "NeighbourScores$Ranking" "items" "[I"] ++ wsX10)
def wsX1_rankNeighbours : List Cond := .code yX1_rankNeighbours cX1_rankNeighbours 4 none :: ([.methodLink RX1 23 yX1_clear, .instanceMethod yX1_clear, .selects RX1 yX1_clear yX1_clear, .initialized RX1, .code yX1_clear cX1_clear 1 none, .fieldLink RX1 19 "NeighbourScores$Ranking" "size" "I", .methodLink RX1 26 yX2_weightOf, .instanceMethod yX2_weightOf, .selects RX2 yX2_weightOf yX2_weightOf, .initialized RX2, .code yX2_weightOf cX2_weightOf 7 (some .int), .fieldLink RX2 16 "NeighbourScores$Ratings" "dots" "[[I", .constantLong RX2 23 (1048576), .methodLink RX1 32 yX1_add, .instanceMethod yX1_add, .selects RX1 yX1_add yX1_add, .code yX1_add cX1_add 5 none, .fieldLink RX1 15 "NeighbourScores$Ranking" "values" "[J", .fieldLink RX1 9 "NeighbourScores$Ranking" "items" "[I"] ++ wsX10 ++ wsX20)
def wsX2_at : List Cond := .code yX2_at cX2_at 3 (some .int) :: ([.fieldLink RX2 11 "NeighbourScores$Ratings" "table" "[[I"] ++ wsX20)
def wsX2_shareOf : List Cond := .code yX2_shareOf cX2_shareOf 4 (some .long) :: ([.fieldLink RX2 11 "NeighbourScores$Ratings" "table" "[[I", .methodLink RX2 25 yX2_weightOf, .instanceMethod yX2_weightOf, .selects RX2 yX2_weightOf yX2_weightOf, .initialized RX2, .code yX2_weightOf cX2_weightOf 7 (some .int), .fieldLink RX2 16 "NeighbourScores$Ratings" "dots" "[[I", .constantLong RX2 23 (1048576)] ++ wsX20)
def wsX2_scoreOf : List Cond := .code yX2_scoreOf cX2_scoreOf 6 (some .long) :: ([.methodLink RX2 29 yX2_shareOf, .instanceMethod yX2_shareOf, .selects RX2 yX2_shareOf yX2_shareOf, .initialized RX2, .code yX2_shareOf cX2_shareOf 4 (some .long), .fieldLink RX2 11 "NeighbourScores$Ratings" "table" "[[I", .methodLink RX2 25 yX2_weightOf, .instanceMethod yX2_weightOf, .selects RX2 yX2_weightOf yX2_weightOf, .code yX2_weightOf cX2_weightOf 7 (some .int), .fieldLink RX2 16 "NeighbourScores$Ratings" "dots" "[[I", .constantLong RX2 23 (1048576)] ++ wsX20)
def wsX1_rankBest_r1 : List Cond := [Cond.methodLink RX1 23 yX1_clear, Cond.instanceMethod yX1_clear, Cond.selects RX1 yX1_clear yX1_clear, Cond.initialized RX1, Cond.code yX1_clear cX1_clear 1 none, Cond.fieldLink RX1 19 "NeighbourScores$Ranking" "size" "I", Cond.methodLink RX1 36 yX2_at, Cond.instanceMethod yX2_at, Cond.selects RX2 yX2_at yX2_at, Cond.initialized RX2, Cond.code yX2_at cX2_at 3 (some .int), Cond.fieldLink RX2 11 "NeighbourScores$Ratings" "table" "[[I", Cond.methodLink RX1 39 yX2_scoreOf, Cond.instanceMethod yX2_scoreOf, Cond.selects RX2 yX2_scoreOf yX2_scoreOf, Cond.code yX2_scoreOf cX2_scoreOf 6 (some .long), Cond.methodLink RX2 29 yX2_shareOf, Cond.instanceMethod yX2_shareOf, Cond.selects RX2 yX2_shareOf yX2_shareOf, Cond.code yX2_shareOf cX2_shareOf 4 (some .long), Cond.methodLink RX2 25 yX2_weightOf, Cond.instanceMethod yX2_weightOf, Cond.selects RX2 yX2_weightOf yX2_weightOf, Cond.code yX2_weightOf cX2_weightOf 7 (some .int)]
def wsX1_rankBest_r2 : List Cond := [Cond.fieldLink RX2 16 "NeighbourScores$Ratings" "dots" "[[I", Cond.constantLong RX2 23 (1048576), Cond.methodLink RX1 32 yX1_add, Cond.instanceMethod yX1_add, Cond.selects RX1 yX1_add yX1_add, Cond.code yX1_add cX1_add 5 none, Cond.fieldLink RX1 15 "NeighbourScores$Ranking" "values" "[J", Cond.fieldLink RX1 9 "NeighbourScores$Ranking" "items" "[I"]
def wsX1_rankBest : List Cond := .code yX1_rankBest cX1_rankBest 4 none :: ((wsX1_rankBest_r1 ++ wsX1_rankBest_r2) ++ wsX10 ++ wsX20)
def wsX1_has : List Cond := .code yX1_has cX1_has 2 (some .boolean) :: ([.fieldLink RX1 19 "NeighbourScores$Ranking" "size" "I"] ++ wsX10)
def wsX1_itemAt : List Cond := .code yX1_itemAt cX1_itemAt 2 (some .int) :: ([.fieldLink RX1 9 "NeighbourScores$Ranking" "items" "[I", .methodLink RX1 43 yX1_has, .instanceMethod yX1_has, .selects RX1 yX1_has yX1_has, .initialized RX1, .code yX1_has cX1_has 2 (some .boolean), .fieldLink RX1 19 "NeighbourScores$Ranking" "size" "I"] ++ wsX10)
def wsX1_valueAt : List Cond := .code yX1_valueAt cX1_valueAt 2 (some .long) :: ([.fieldLink RX1 15 "NeighbourScores$Ranking" "values" "[J", .methodLink RX1 43 yX1_has, .instanceMethod yX1_has, .selects RX1 yX1_has yX1_has, .initialized RX1, .code yX1_has cX1_has 2 (some .boolean), .fieldLink RX1 19 "NeighbourScores$Ranking" "size" "I"] ++ wsX10)
def wsX2_init : List Cond := .code yX2_init cX2_init 1 none :: ([.methodLink RX2 3 objectInit, .instanceMethod objectInit, .code objectInit ⟨#[0xb1]⟩ 1 none, .classLink RX2 9 "[[I", .arrayClass .int, .fieldLink RX2 11 "NeighbourScores$Ratings" "table" "[[I", .fieldLink RX2 16 "NeighbourScores$Ratings" "dots" "[[I"] ++ wsX20)
def wsX2_set : List Cond := .code yX2_set cX2_set 7 none :: ([.fieldLink RX2 11 "NeighbourScores$Ratings" "table" "[[I", .fieldLink RX2 16 "NeighbourScores$Ratings" "dots" "[[I"] ++ wsX20)
def wsX2_clear : List Cond := .code yX2_clear cX2_clear 3 none :: ([.methodLink RX2 19 yX2_set, .instanceMethod yX2_set, .selects RX2 yX2_set yX2_set, .initialized RX2, .code yX2_set cX2_set 7 none, .fieldLink RX2 11 "NeighbourScores$Ratings" "table" "[[I", .fieldLink RX2 16 "NeighbourScores$Ratings" "dots" "[[I"] ++ wsX20)
def wsX2_countRated : List Cond := .code yX2_countRated cX2_countRated 4 (some .int) :: ([.fieldLink RX2 11 "NeighbourScores$Ratings" "table" "[[I"] ++ wsX20)
def wsX2_packed : List Cond := .code yX2_packed cX2_packed 5 (some .int) :: ([.fieldLink RX2 11 "NeighbourScores$Ratings" "table" "[[I"] ++ wsX20)
def wsX2_unpack : List Cond := .code yX2_unpack cX2_unpack 6 none :: ([.methodLink RX2 19 yX2_set, .instanceMethod yX2_set, .selects RX2 yX2_set yX2_set, .initialized RX2, .code yX2_set cX2_set 7 none, .fieldLink RX2 11 "NeighbourScores$Ratings" "table" "[[I", .fieldLink RX2 16 "NeighbourScores$Ratings" "dots" "[[I"] ++ wsX20)
def wsX3_init : List Cond := .code yX3_init cX3_init 2 none :: ([.methodLink RX3 3 objectInit, .instanceMethod objectInit, .code objectInit ⟨#[0xb1]⟩ 1 none, .classLink RX3 9 RX1, .fieldLink RX3 11 "NeighbourScores$Reading" "lists" "[LNeighbourScores$Ranking;", .arrayClass .long, .fieldLink RX3 17 "NeighbourScores$Reading" "found" "[J", .fieldLink RX3 21 "NeighbourScores$Reading" "entries" "I", .instantiable RX1 3, .initialized RX1, .instanceMethod yX1_init, .code yX1_init cX1_init 1 none, .methodLink RX1 3 objectInit, .arrayClass .int, .fieldLink RX1 9 "NeighbourScores$Ranking" "items" "[I", .fieldLink RX1 15 "NeighbourScores$Ranking" "values" "[J", .fieldLink RX1 19 "NeighbourScores$Ranking" "size" "I"] ++ wsX30 ++ wsX10)
def wsX3_begin_r1 : List Cond := [Cond.fieldLink RX3 21 "NeighbourScores$Reading" "entries" "I", Cond.fieldLink RX3 17 "NeighbourScores$Reading" "found" "[J", Cond.fieldLink RX3 11 "NeighbourScores$Reading" "lists" "[LNeighbourScores$Ranking;", Cond.methodLink RX3 42 yX1_clear, Cond.instanceMethod yX1_clear, Cond.selects RX1 yX1_clear yX1_clear, Cond.initialized RX1, Cond.code yX1_clear cX1_clear 1 none, Cond.fieldLink RX1 19 "NeighbourScores$Ranking" "size" "I", Cond.methodLink RX3 45 yX2_at, Cond.instanceMethod yX2_at, Cond.selects RX2 yX2_at yX2_at, Cond.initialized RX2, Cond.code yX2_at cX2_at 3 (some .int), Cond.fieldLink RX2 11 "NeighbourScores$Ratings" "table" "[[I", Cond.methodLink RX3 51 yX1_rankNeighbours, Cond.instanceMethod yX1_rankNeighbours, Cond.selects RX1 yX1_rankNeighbours yX1_rankNeighbours, Cond.code yX1_rankNeighbours cX1_rankNeighbours 4 none, Cond.methodLink RX1 23 yX1_clear, Cond.methodLink RX1 26 yX2_weightOf, Cond.instanceMethod yX2_weightOf, Cond.selects RX2 yX2_weightOf yX2_weightOf, Cond.code yX2_weightOf cX2_weightOf 7 (some .int)]
def wsX3_begin_r2 : List Cond := [Cond.fieldLink RX2 16 "NeighbourScores$Ratings" "dots" "[[I", Cond.constantLong RX2 23 (1048576), Cond.methodLink RX1 32 yX1_add, Cond.instanceMethod yX1_add, Cond.selects RX1 yX1_add yX1_add, Cond.code yX1_add cX1_add 5 none, Cond.fieldLink RX1 15 "NeighbourScores$Ranking" "values" "[J", Cond.fieldLink RX1 9 "NeighbourScores$Ranking" "items" "[I"]
def wsX3_begin : List Cond := .code yX3_begin cX3_begin 4 none :: ((wsX3_begin_r1 ++ wsX3_begin_r2) ++ wsX30 ++ wsX10 ++ wsX20)
def wsX3_isEntryLeft : List Cond := .code yX3_isEntryLeft cX3_isEntryLeft 3 (some .boolean) :: ([.fieldLink RX3 11 "NeighbourScores$Reading" "lists" "[LNeighbourScores$Ranking;", .methodLink RX3 54 yX1_has, .instanceMethod yX1_has, .selects RX1 yX1_has yX1_has, .initialized RX1, .code yX1_has cX1_has 2 (some .boolean), .fieldLink RX1 19 "NeighbourScores$Ranking" "size" "I"] ++ wsX30 ++ wsX10)
def wsX3_find : List Cond := .code yX3_find cX3_find 4 none :: ([.fieldLink RX3 17 "NeighbourScores$Reading" "found" "[J", .methodLink RX3 45 yX2_at, .instanceMethod yX2_at, .selects RX2 yX2_at yX2_at, .initialized RX2, .code yX2_at cX2_at 3 (some .int), .fieldLink RX2 11 "NeighbourScores$Ratings" "table" "[[I", .methodLink RX3 69 yX2_scoreOf, .instanceMethod yX2_scoreOf, .selects RX2 yX2_scoreOf yX2_scoreOf, .code yX2_scoreOf cX2_scoreOf 6 (some .long), .methodLink RX2 29 yX2_shareOf, .instanceMethod yX2_shareOf, .selects RX2 yX2_shareOf yX2_shareOf, .code yX2_shareOf cX2_shareOf 4 (some .long), .methodLink RX2 25 yX2_weightOf, .instanceMethod yX2_weightOf, .selects RX2 yX2_weightOf yX2_weightOf, .code yX2_weightOf cX2_weightOf 7 (some .int), .fieldLink RX2 16 "NeighbourScores$Ratings" "dots" "[[I", .constantLong RX2 23 (1048576)] ++ wsX30 ++ wsX20)
def wsX3_readRound_r1 : List Cond := [Cond.fieldLink RX3 11 "NeighbourScores$Reading" "lists" "[LNeighbourScores$Ranking;", Cond.fieldLink RX3 21 "NeighbourScores$Reading" "entries" "I", Cond.methodLink RX3 54 yX1_has, Cond.instanceMethod yX1_has, Cond.selects RX1 yX1_has yX1_has, Cond.initialized RX1, Cond.code yX1_has cX1_has 2 (some .boolean), Cond.fieldLink RX1 19 "NeighbourScores$Ranking" "size" "I", Cond.methodLink RX3 45 yX2_at, Cond.instanceMethod yX2_at, Cond.selects RX2 yX2_at yX2_at, Cond.initialized RX2, Cond.code yX2_at cX2_at 3 (some .int), Cond.fieldLink RX2 11 "NeighbourScores$Ratings" "table" "[[I", Cond.methodLink RX3 57 yX1_valueAt, Cond.instanceMethod yX1_valueAt, Cond.selects RX1 yX1_valueAt yX1_valueAt, Cond.code yX1_valueAt cX1_valueAt 2 (some .long), Cond.fieldLink RX1 15 "NeighbourScores$Ranking" "values" "[J", Cond.methodLink RX1 43 yX1_has, Cond.methodLink RX3 61 yX1_itemAt, Cond.instanceMethod yX1_itemAt, Cond.selects RX1 yX1_itemAt yX1_itemAt, Cond.code yX1_itemAt cX1_itemAt 2 (some .int)]
def wsX3_readRound_r2 : List Cond := [Cond.fieldLink RX1 9 "NeighbourScores$Ranking" "items" "[I", Cond.methodLink RX3 65 yX3_find, Cond.instanceMethod yX3_find, Cond.selects RX3 yX3_find yX3_find, Cond.initialized RX3, Cond.code yX3_find cX3_find 4 none, Cond.fieldLink RX3 17 "NeighbourScores$Reading" "found" "[J", Cond.methodLink RX3 69 yX2_scoreOf, Cond.instanceMethod yX2_scoreOf, Cond.selects RX2 yX2_scoreOf yX2_scoreOf, Cond.code yX2_scoreOf cX2_scoreOf 6 (some .long), Cond.methodLink RX2 29 yX2_shareOf, Cond.instanceMethod yX2_shareOf, Cond.selects RX2 yX2_shareOf yX2_shareOf, Cond.code yX2_shareOf cX2_shareOf 4 (some .long), Cond.methodLink RX2 25 yX2_weightOf, Cond.instanceMethod yX2_weightOf, Cond.selects RX2 yX2_weightOf yX2_weightOf, Cond.code yX2_weightOf cX2_weightOf 7 (some .int), Cond.fieldLink RX2 16 "NeighbourScores$Ratings" "dots" "[[I", Cond.constantLong RX2 23 (1048576)]
def wsX3_readRound : List Cond := .code yX3_readRound cX3_readRound 7 (some .long) :: ((wsX3_readRound_r1 ++ wsX3_readRound_r2) ++ wsX30 ++ wsX10 ++ wsX20)
def wsX3_countFoundAbove : List Cond := .code yX3_countFoundAbove cX3_countFoundAbove 5 (some .int) :: ([.fieldLink RX3 17 "NeighbourScores$Reading" "found" "[J"] ++ wsX30)
def wsX3_countEntries_r1 : List Cond := [Cond.fieldLink RX3 21 "NeighbourScores$Reading" "entries" "I", Cond.methodLink RX3 26 yX3_begin, Cond.instanceMethod yX3_begin, Cond.selects RX3 yX3_begin yX3_begin, Cond.initialized RX3, Cond.code yX3_begin cX3_begin 4 none, Cond.fieldLink RX3 17 "NeighbourScores$Reading" "found" "[J", Cond.fieldLink RX3 11 "NeighbourScores$Reading" "lists" "[LNeighbourScores$Ranking;", Cond.methodLink RX3 42 yX1_clear, Cond.instanceMethod yX1_clear, Cond.selects RX1 yX1_clear yX1_clear, Cond.initialized RX1, Cond.code yX1_clear cX1_clear 1 none, Cond.fieldLink RX1 19 "NeighbourScores$Ranking" "size" "I", Cond.methodLink RX3 45 yX2_at, Cond.instanceMethod yX2_at, Cond.selects RX2 yX2_at yX2_at, Cond.initialized RX2, Cond.code yX2_at cX2_at 3 (some .int), Cond.fieldLink RX2 11 "NeighbourScores$Ratings" "table" "[[I", Cond.methodLink RX3 51 yX1_rankNeighbours, Cond.instanceMethod yX1_rankNeighbours, Cond.selects RX1 yX1_rankNeighbours yX1_rankNeighbours, Cond.code yX1_rankNeighbours cX1_rankNeighbours 4 none]
def wsX3_countEntries_r2 : List Cond := [Cond.methodLink RX1 23 yX1_clear, Cond.methodLink RX1 26 yX2_weightOf, Cond.instanceMethod yX2_weightOf, Cond.selects RX2 yX2_weightOf yX2_weightOf, Cond.code yX2_weightOf cX2_weightOf 7 (some .int), Cond.fieldLink RX2 16 "NeighbourScores$Ratings" "dots" "[[I", Cond.constantLong RX2 23 (1048576), Cond.methodLink RX1 32 yX1_add, Cond.instanceMethod yX1_add, Cond.selects RX1 yX1_add yX1_add, Cond.code yX1_add cX1_add 5 none, Cond.fieldLink RX1 15 "NeighbourScores$Ranking" "values" "[J", Cond.fieldLink RX1 9 "NeighbourScores$Ranking" "items" "[I", Cond.methodLink RX3 30 yX3_isEntryLeft, Cond.instanceMethod yX3_isEntryLeft, Cond.selects RX3 yX3_isEntryLeft yX3_isEntryLeft, Cond.code yX3_isEntryLeft cX3_isEntryLeft 3 (some .boolean), Cond.methodLink RX3 54 yX1_has, Cond.instanceMethod yX1_has, Cond.selects RX1 yX1_has yX1_has, Cond.code yX1_has cX1_has 2 (some .boolean), Cond.methodLink RX3 34 yX3_readRound, Cond.instanceMethod yX3_readRound, Cond.selects RX3 yX3_readRound yX3_readRound]
def wsX3_countEntries_r3 : List Cond := [Cond.code yX3_readRound cX3_readRound 7 (some .long), Cond.methodLink RX3 57 yX1_valueAt, Cond.instanceMethod yX1_valueAt, Cond.selects RX1 yX1_valueAt yX1_valueAt, Cond.code yX1_valueAt cX1_valueAt 2 (some .long), Cond.methodLink RX1 43 yX1_has, Cond.methodLink RX3 61 yX1_itemAt, Cond.instanceMethod yX1_itemAt, Cond.selects RX1 yX1_itemAt yX1_itemAt, Cond.code yX1_itemAt cX1_itemAt 2 (some .int), Cond.methodLink RX3 65 yX3_find, Cond.instanceMethod yX3_find, Cond.selects RX3 yX3_find yX3_find, Cond.code yX3_find cX3_find 4 none, Cond.methodLink RX3 69 yX2_scoreOf, Cond.instanceMethod yX2_scoreOf, Cond.selects RX2 yX2_scoreOf yX2_scoreOf, Cond.code yX2_scoreOf cX2_scoreOf 6 (some .long), Cond.methodLink RX2 29 yX2_shareOf, Cond.instanceMethod yX2_shareOf, Cond.selects RX2 yX2_shareOf yX2_shareOf, Cond.code yX2_shareOf cX2_shareOf 4 (some .long), Cond.methodLink RX2 25 yX2_weightOf, Cond.methodLink RX3 38 yX3_countFoundAbove]
def wsX3_countEntries_r4 : List Cond := [Cond.instanceMethod yX3_countFoundAbove, Cond.selects RX3 yX3_countFoundAbove yX3_countFoundAbove, Cond.code yX3_countFoundAbove cX3_countFoundAbove 5 (some .int)]
def wsX3_countEntries : List Cond := .code yX3_countEntries cX3_countEntries 7 (some .int) :: ((wsX3_countEntries_r1 ++ (wsX3_countEntries_r2 ++ (wsX3_countEntries_r3 ++ wsX3_countEntries_r4))) ++ wsX30 ++ wsX10 ++ wsX20)
def wsX4_init : List Cond := .code yX4_init cX4_init 1 none :: ([.methodLink RX4 5 objectInit, .instanceMethod objectInit, .code objectInit ⟨#[0xb1]⟩ 1 none, .arrayClass .int, .fieldLink RX4 13 "NeighbourScores$Records" "row" "[I"] ++ wsX40)
def wsJ9_floorMod_7cf53 : List Cond := .code yJ9_floorMod_7cf53 cJ9_floorMod_7cf53 3 (some .int) :: ([])
def wsX4_startOf : List Cond := .code yX4_startOf cX4_startOf 1 (some .int) :: ([.methodLink RX4 63 yJ9_floorMod_7cf53, .static yJ9_floorMod_7cf53, .initialized RJ9, .code yJ9_floorMod_7cf53 cJ9_floorMod_7cf53 3 (some .int)])
def wsX4_writeRecord_r1 : List Cond := [Cond.fieldLink RX4 13 "NeighbourScores$Records" "row" "[I", Cond.methodLink RX4 17 yX0_checkOf, Cond.static yX0_checkOf, Cond.initialized RX0, Cond.code yX0_checkOf cX0_checkOf 6 (some .int), Cond.methodLink RX0 39 yX0_mix, Cond.static yX0_mix, Cond.code yX0_mix cX0_mix 3 (some .int), Cond.constant RX0 46 (668265263), Cond.constant RX0 47 (374761393), Cond.methodLink RX4 23 yX4_startOf, Cond.static yX4_startOf, Cond.initialized RX4, Cond.code yX4_startOf cX4_startOf 1 (some .int), Cond.methodLink RX4 63 yJ9_floorMod_7cf53, Cond.static yJ9_floorMod_7cf53, Cond.initialized RJ9, Cond.code yJ9_floorMod_7cf53 cJ9_floorMod_7cf53 3 (some .int), Cond.methodLink RX4 27 yX0_writeRow, Cond.instanceMethod yX0_writeRow, Cond.selects RX0 yX0_writeRow yX0_writeRow, Cond.code yX0_writeRow cX0_writeRow 4 (some .boolean), Cond.methodLink RX0 31 yX0_writeWord, Cond.instanceMethod yX0_writeWord]
def wsX4_writeRecord_r2 : List Cond := [Cond.selects RX0 yX0_writeWord yX0_writeWord, Cond.code yX0_writeWord cX0_writeWord 3 (some .boolean), Cond.fieldLink RX0 17 "NeighbourScores$Disk" "wordsToFailure" "I", Cond.fieldLink RX0 13 "NeighbourScores$Disk" "powered" "Z", Cond.methodLink RX0 43 yX0_put, Cond.instanceMethod yX0_put, Cond.selects RX0 yX0_put yX0_put, Cond.code yX0_put cX0_put 3 (some .boolean), Cond.fieldLink RX0 9 "NeighbourScores$Disk" "words" "[I", Cond.methodLink RX0 27 yX0_has, Cond.instanceMethod yX0_has, Cond.selects RX0 yX0_has yX0_has, Cond.code yX0_has cX0_has 2 (some .boolean)]
def wsX4_writeRecord : List Cond := .code yX4_writeRecord cX4_writeRecord 6 (some .boolean) :: ((wsX4_writeRecord_r1 ++ wsX4_writeRecord_r2) ++ wsX40 ++ wsX00)
def wsX4_userIn : List Cond := .code yX4_userIn cX4_userIn 1 (some .int) :: ([])
def wsX6_isUser : List Cond := .code yX6_isUser cX6_isUser 1 (some .boolean) :: ([])
def wsX4_itemIn : List Cond := .code yX4_itemIn cX4_itemIn 1 (some .int) :: ([])
def wsX6_isItem : List Cond := .code yX6_isItem cX6_isItem 1 (some .boolean) :: ([])
def wsX4_ratingIn : List Cond := .code yX4_ratingIn cX4_ratingIn 1 (some .int) :: ([])
def wsX4_namesRating : List Cond := .code yX4_namesRating cX4_namesRating 1 (some .boolean) :: ([.methodLink RX4 42 yX4_userIn, .static yX4_userIn, .initialized RX4, .code yX4_userIn cX4_userIn 1 (some .int), .static yX6_isUser, .initialized RX6, .code yX6_isUser cX6_isUser 1 (some .boolean), .methodLink RX4 45 yX4_itemIn, .static yX4_itemIn, .code yX4_itemIn cX4_itemIn 1 (some .int), .static yX6_isItem, .code yX6_isItem cX6_isItem 1 (some .boolean), .methodLink RX4 48 yX4_ratingIn, .static yX4_ratingIn, .code yX4_ratingIn cX4_ratingIn 1 (some .int)])
def wsX4_holds_r1 : List Cond := [Cond.methodLink RX4 23 yX4_startOf, Cond.static yX4_startOf, Cond.initialized RX4, Cond.code yX4_startOf cX4_startOf 1 (some .int), Cond.methodLink RX4 63 yJ9_floorMod_7cf53, Cond.static yJ9_floorMod_7cf53, Cond.initialized RJ9, Cond.code yJ9_floorMod_7cf53 cJ9_floorMod_7cf53 3 (some .int), Cond.methodLink RX4 31 yX0_at, Cond.instanceMethod yX0_at, Cond.selects RX0 yX0_at yX0_at, Cond.initialized RX0, Cond.code yX0_at cX0_at 2 (some .int), Cond.fieldLink RX0 9 "NeighbourScores$Disk" "words" "[I", Cond.methodLink RX0 27 yX0_has, Cond.instanceMethod yX0_has, Cond.selects RX0 yX0_has yX0_has, Cond.code yX0_has cX0_has 2 (some .boolean), Cond.methodLink RX4 34 yX0_isCheckRight, Cond.instanceMethod yX0_isCheckRight, Cond.selects RX0 yX0_isCheckRight yX0_isCheckRight, Cond.code yX0_isCheckRight cX0_isCheckRight 4 (some .boolean), Cond.methodLink RX0 35 yX0_at, Cond.methodLink RX0 23 yX0_checkOf]
def wsX4_holds_r2 : List Cond := [Cond.static yX0_checkOf, Cond.code yX0_checkOf cX0_checkOf 6 (some .int), Cond.methodLink RX0 39 yX0_mix, Cond.static yX0_mix, Cond.code yX0_mix cX0_mix 3 (some .int), Cond.constant RX0 46 (668265263), Cond.constant RX0 47 (374761393), Cond.methodLink RX4 38 yX4_namesRating, Cond.static yX4_namesRating, Cond.code yX4_namesRating cX4_namesRating 1 (some .boolean), Cond.methodLink RX4 42 yX4_userIn, Cond.static yX4_userIn, Cond.code yX4_userIn cX4_userIn 1 (some .int), Cond.static yX6_isUser, Cond.initialized RX6, Cond.code yX6_isUser cX6_isUser 1 (some .boolean), Cond.methodLink RX4 45 yX4_itemIn, Cond.static yX4_itemIn, Cond.code yX4_itemIn cX4_itemIn 1 (some .int), Cond.static yX6_isItem, Cond.code yX6_isItem cX6_isItem 1 (some .boolean), Cond.methodLink RX4 48 yX4_ratingIn, Cond.static yX4_ratingIn, Cond.code yX4_ratingIn cX4_ratingIn 1 (some .int)]
def wsX4_holds : List Cond := .code yX4_holds cX4_holds 3 (some .boolean) :: ((wsX4_holds_r1 ++ wsX4_holds_r2) ++ wsX00)
def wsX4_repeat_r1 : List Cond := [Cond.methodLink RX4 23 yX4_startOf, Cond.static yX4_startOf, Cond.initialized RX4, Cond.code yX4_startOf cX4_startOf 1 (some .int), Cond.methodLink RX4 63 yJ9_floorMod_7cf53, Cond.static yJ9_floorMod_7cf53, Cond.initialized RJ9, Cond.code yJ9_floorMod_7cf53 cJ9_floorMod_7cf53 3 (some .int), Cond.methodLink RX4 31 yX0_at, Cond.instanceMethod yX0_at, Cond.selects RX0 yX0_at yX0_at, Cond.initialized RX0, Cond.code yX0_at cX0_at 2 (some .int), Cond.fieldLink RX0 9 "NeighbourScores$Disk" "words" "[I", Cond.methodLink RX0 27 yX0_has, Cond.instanceMethod yX0_has, Cond.selects RX0 yX0_has yX0_has, Cond.code yX0_has cX0_has 2 (some .boolean), Cond.methodLink RX4 42 yX4_userIn, Cond.static yX4_userIn, Cond.code yX4_userIn cX4_userIn 1 (some .int), Cond.methodLink RX4 45 yX4_itemIn, Cond.static yX4_itemIn, Cond.code yX4_itemIn cX4_itemIn 1 (some .int)]
def wsX4_repeat_r2 : List Cond := [Cond.methodLink RX4 48 yX4_ratingIn, Cond.static yX4_ratingIn, Cond.code yX4_ratingIn cX4_ratingIn 1 (some .int), Cond.methodLink RX4 51 yX2_set, Cond.instanceMethod yX2_set, Cond.selects RX2 yX2_set yX2_set, Cond.initialized RX2, Cond.code yX2_set cX2_set 7 none, Cond.fieldLink RX2 11 "NeighbourScores$Ratings" "table" "[[I", Cond.fieldLink RX2 16 "NeighbourScores$Ratings" "dots" "[[I"]
def wsX4_repeat : List Cond := .code yX4_repeat cX4_repeat 4 none :: ((wsX4_repeat_r1 ++ wsX4_repeat_r2) ++ wsX00 ++ wsX20)
def wsX5_init : List Cond := .code yX5_init cX5_init 1 none :: ([.methodLink RX5 3 objectInit, .instanceMethod objectInit, .code objectInit ⟨#[0xb1]⟩ 1 none, .arrayClass .int, .fieldLink RX5 11 "NeighbourScores$Snapshots" "row" "[I"] ++ wsX50)
def wsX5_placeOf : List Cond := .code yX5_placeOf cX5_placeOf 2 (some .int) :: ([])
def wsX5_startOf : List Cond := .code yX5_startOf cX5_startOf 1 (some .int) :: ([])
def wsX5_isGood_r1 : List Cond := [Cond.constant RX5 56 (1000000000), Cond.methodLink RX5 34 yX5_startOf, Cond.static yX5_startOf, Cond.initialized RX5, Cond.code yX5_startOf cX5_startOf 1 (some .int), Cond.methodLink RX5 45 yX0_at, Cond.instanceMethod yX0_at, Cond.selects RX0 yX0_at yX0_at, Cond.initialized RX0, Cond.code yX0_at cX0_at 2 (some .int), Cond.fieldLink RX0 9 "NeighbourScores$Disk" "words" "[I", Cond.methodLink RX0 27 yX0_has, Cond.instanceMethod yX0_has, Cond.selects RX0 yX0_has yX0_has, Cond.code yX0_has cX0_has 2 (some .boolean), Cond.methodLink RX5 57 yX0_isCheckRight, Cond.instanceMethod yX0_isCheckRight, Cond.selects RX0 yX0_isCheckRight yX0_isCheckRight, Cond.code yX0_isCheckRight cX0_isCheckRight 4 (some .boolean), Cond.methodLink RX0 35 yX0_at, Cond.methodLink RX0 23 yX0_checkOf, Cond.static yX0_checkOf, Cond.code yX0_checkOf cX0_checkOf 6 (some .int), Cond.methodLink RX0 39 yX0_mix]
def wsX5_isGood_r2 : List Cond := [Cond.static yX0_mix, Cond.code yX0_mix cX0_mix 3 (some .int), Cond.constant RX0 46 (668265263), Cond.constant RX0 47 (374761393)]
def wsX5_isGood : List Cond := .code yX5_isGood cX5_isGood 4 (some .boolean) :: ((wsX5_isGood_r1 ++ wsX5_isGood_r2) ++ wsX00)
def wsX5_newest_r1 : List Cond := [Cond.methodLink RX5 52 yX5_isGood, Cond.static yX5_isGood, Cond.initialized RX5, Cond.code yX5_isGood cX5_isGood 4 (some .boolean), Cond.constant RX5 56 (1000000000), Cond.methodLink RX5 34 yX5_startOf, Cond.static yX5_startOf, Cond.code yX5_startOf cX5_startOf 1 (some .int), Cond.methodLink RX5 45 yX0_at, Cond.instanceMethod yX0_at, Cond.selects RX0 yX0_at yX0_at, Cond.initialized RX0, Cond.code yX0_at cX0_at 2 (some .int), Cond.fieldLink RX0 9 "NeighbourScores$Disk" "words" "[I", Cond.methodLink RX0 27 yX0_has, Cond.instanceMethod yX0_has, Cond.selects RX0 yX0_has yX0_has, Cond.code yX0_has cX0_has 2 (some .boolean), Cond.methodLink RX5 57 yX0_isCheckRight, Cond.instanceMethod yX0_isCheckRight, Cond.selects RX0 yX0_isCheckRight yX0_isCheckRight, Cond.code yX0_isCheckRight cX0_isCheckRight 4 (some .boolean), Cond.methodLink RX0 35 yX0_at, Cond.methodLink RX0 23 yX0_checkOf]
def wsX5_newest_r2 : List Cond := [Cond.static yX0_checkOf, Cond.code yX0_checkOf cX0_checkOf 6 (some .int), Cond.methodLink RX0 39 yX0_mix, Cond.static yX0_mix, Cond.code yX0_mix cX0_mix 3 (some .int), Cond.constant RX0 46 (668265263), Cond.constant RX0 47 (374761393)]
def wsX5_newest : List Cond := .code yX5_newest cX5_newest 3 (some .int) :: ((wsX5_newest_r1 ++ wsX5_newest_r2) ++ wsX00)
def wsX5_writeOverOlder_r1 : List Cond := [Cond.fieldLink RX5 11 "NeighbourScores$Snapshots" "row" "[I", Cond.methodLink RX5 15 yX5_placeOf, Cond.static yX5_placeOf, Cond.initialized RX5, Cond.code yX5_placeOf cX5_placeOf 2 (some .int), Cond.methodLink RX5 19 yX2_packed, Cond.instanceMethod yX2_packed, Cond.selects RX2 yX2_packed yX2_packed, Cond.initialized RX2, Cond.code yX2_packed cX2_packed 5 (some .int), Cond.fieldLink RX2 11 "NeighbourScores$Ratings" "table" "[[I", Cond.methodLink RX5 24 yX0_checkOf, Cond.static yX0_checkOf, Cond.initialized RX0, Cond.code yX0_checkOf cX0_checkOf 6 (some .int), Cond.methodLink RX0 39 yX0_mix, Cond.static yX0_mix, Cond.code yX0_mix cX0_mix 3 (some .int), Cond.constant RX0 46 (668265263), Cond.constant RX0 47 (374761393), Cond.methodLink RX5 30 yX5_newest, Cond.static yX5_newest, Cond.code yX5_newest cX5_newest 3 (some .int), Cond.methodLink RX5 52 yX5_isGood]
def wsX5_writeOverOlder_r2 : List Cond := [Cond.static yX5_isGood, Cond.code yX5_isGood cX5_isGood 4 (some .boolean), Cond.constant RX5 56 (1000000000), Cond.methodLink RX5 34 yX5_startOf, Cond.static yX5_startOf, Cond.code yX5_startOf cX5_startOf 1 (some .int), Cond.methodLink RX5 45 yX0_at, Cond.instanceMethod yX0_at, Cond.selects RX0 yX0_at yX0_at, Cond.code yX0_at cX0_at 2 (some .int), Cond.fieldLink RX0 9 "NeighbourScores$Disk" "words" "[I", Cond.methodLink RX0 27 yX0_has, Cond.instanceMethod yX0_has, Cond.selects RX0 yX0_has yX0_has, Cond.code yX0_has cX0_has 2 (some .boolean), Cond.methodLink RX5 57 yX0_isCheckRight, Cond.instanceMethod yX0_isCheckRight, Cond.selects RX0 yX0_isCheckRight yX0_isCheckRight, Cond.code yX0_isCheckRight cX0_isCheckRight 4 (some .boolean), Cond.methodLink RX0 35 yX0_at, Cond.methodLink RX0 23 yX0_checkOf, Cond.methodLink RX5 38 yX0_writeRow, Cond.instanceMethod yX0_writeRow, Cond.selects RX0 yX0_writeRow yX0_writeRow]
def wsX5_writeOverOlder_r3 : List Cond := [Cond.code yX0_writeRow cX0_writeRow 4 (some .boolean), Cond.methodLink RX0 31 yX0_writeWord, Cond.instanceMethod yX0_writeWord, Cond.selects RX0 yX0_writeWord yX0_writeWord, Cond.code yX0_writeWord cX0_writeWord 3 (some .boolean), Cond.fieldLink RX0 17 "NeighbourScores$Disk" "wordsToFailure" "I", Cond.fieldLink RX0 13 "NeighbourScores$Disk" "powered" "Z", Cond.methodLink RX0 43 yX0_put, Cond.instanceMethod yX0_put, Cond.selects RX0 yX0_put yX0_put, Cond.code yX0_put cX0_put 3 (some .boolean)]
def wsX5_writeOverOlder : List Cond := .code yX5_writeOverOlder cX5_writeOverOlder 6 (some .boolean) :: ((wsX5_writeOverOlder_r1 ++ (wsX5_writeOverOlder_r2 ++ wsX5_writeOverOlder_r3)) ++ wsX50 ++ wsX20 ++ wsX00)
def wsX5_loadNewest_r1 : List Cond := [Cond.methodLink RX5 30 yX5_newest, Cond.static yX5_newest, Cond.initialized RX5, Cond.code yX5_newest cX5_newest 3 (some .int), Cond.methodLink RX5 52 yX5_isGood, Cond.static yX5_isGood, Cond.code yX5_isGood cX5_isGood 4 (some .boolean), Cond.constant RX5 56 (1000000000), Cond.methodLink RX5 34 yX5_startOf, Cond.static yX5_startOf, Cond.code yX5_startOf cX5_startOf 1 (some .int), Cond.methodLink RX5 45 yX0_at, Cond.instanceMethod yX0_at, Cond.selects RX0 yX0_at yX0_at, Cond.initialized RX0, Cond.code yX0_at cX0_at 2 (some .int), Cond.fieldLink RX0 9 "NeighbourScores$Disk" "words" "[I", Cond.methodLink RX0 27 yX0_has, Cond.instanceMethod yX0_has, Cond.selects RX0 yX0_has yX0_has, Cond.code yX0_has cX0_has 2 (some .boolean), Cond.methodLink RX5 57 yX0_isCheckRight, Cond.instanceMethod yX0_isCheckRight, Cond.selects RX0 yX0_isCheckRight yX0_isCheckRight]
def wsX5_loadNewest_r2 : List Cond := [Cond.code yX0_isCheckRight cX0_isCheckRight 4 (some .boolean), Cond.methodLink RX0 35 yX0_at, Cond.methodLink RX0 23 yX0_checkOf, Cond.static yX0_checkOf, Cond.code yX0_checkOf cX0_checkOf 6 (some .int), Cond.methodLink RX0 39 yX0_mix, Cond.static yX0_mix, Cond.code yX0_mix cX0_mix 3 (some .int), Cond.constant RX0 46 (668265263), Cond.constant RX0 47 (374761393), Cond.methodLink RX5 42 yX2_clear, Cond.instanceMethod yX2_clear, Cond.selects RX2 yX2_clear yX2_clear, Cond.initialized RX2, Cond.code yX2_clear cX2_clear 3 none, Cond.methodLink RX2 19 yX2_set, Cond.instanceMethod yX2_set, Cond.selects RX2 yX2_set yX2_set, Cond.code yX2_set cX2_set 7 none, Cond.fieldLink RX2 11 "NeighbourScores$Ratings" "table" "[[I", Cond.fieldLink RX2 16 "NeighbourScores$Ratings" "dots" "[[I", Cond.methodLink RX5 15 yX5_placeOf, Cond.static yX5_placeOf, Cond.code yX5_placeOf cX5_placeOf 2 (some .int)]
def wsX5_loadNewest_r3 : List Cond := [Cond.methodLink RX5 48 yX2_unpack, Cond.instanceMethod yX2_unpack, Cond.selects RX2 yX2_unpack yX2_unpack, Cond.code yX2_unpack cX2_unpack 6 none]
def wsX5_loadNewest : List Cond := .code yX5_loadNewest cX5_loadNewest 6 (some .int) :: ((wsX5_loadNewest_r1 ++ (wsX5_loadNewest_r2 ++ wsX5_loadNewest_r3)) ++ wsX00 ++ wsX20)
def wsX6_init_r1 : List Cond := [Cond.methodLink RX6 1 objectInit, Cond.instanceMethod objectInit, Cond.code objectInit ⟨#[0xb1]⟩ 1 none, Cond.classLink RX6 7 RX0, Cond.instantiable RX0 3, Cond.initialized RX0, Cond.fieldLink RX6 10 "NeighbourScores" "disk" "LNeighbourScores$Disk;", Cond.classLink RX6 16 RX5, Cond.instantiable RX5 1, Cond.initialized RX5, Cond.fieldLink RX6 19 "NeighbourScores" "snapshots" "LNeighbourScores$Snapshots;", Cond.classLink RX6 23 RX4, Cond.instantiable RX4 1, Cond.initialized RX4, Cond.fieldLink RX6 26 "NeighbourScores" "records" "LNeighbourScores$Records;", Cond.classLink RX6 30 RX2, Cond.instantiable RX2 2, Cond.initialized RX2, Cond.fieldLink RX6 33 "NeighbourScores" "ratings" "LNeighbourScores$Ratings;", Cond.classLink RX6 37 RX1, Cond.instantiable RX1 3, Cond.initialized RX1, Cond.fieldLink RX6 40 "NeighbourScores" "ranking" "LNeighbourScores$Ranking;", Cond.classLink RX6 44 RX3]
def wsX6_init_r2 : List Cond := [Cond.instantiable RX3 3, Cond.initialized RX3, Cond.fieldLink RX6 47 "NeighbourScores" "reading" "LNeighbourScores$Reading;", Cond.fieldLink RX6 51 "NeighbourScores" "systemNumber" "I", Cond.fieldLink RX6 55 "NeighbourScores" "baseNumber" "I", Cond.methodLink RX6 9 yX0_init, Cond.instanceMethod yX0_init, Cond.code yX0_init cX0_init 2 none, Cond.methodLink RX0 1 objectInit, Cond.arrayClass .int, Cond.fieldLink RX0 9 "NeighbourScores$Disk" "words" "[I", Cond.fieldLink RX0 13 "NeighbourScores$Disk" "powered" "Z", Cond.fieldLink RX0 17 "NeighbourScores$Disk" "wordsToFailure" "I", Cond.methodLink RX0 23 yX0_checkOf, Cond.static yX0_checkOf, Cond.code yX0_checkOf cX0_checkOf 6 (some .int), Cond.methodLink RX0 39 yX0_mix, Cond.static yX0_mix, Cond.code yX0_mix cX0_mix 3 (some .int), Cond.constant RX0 46 (668265263), Cond.constant RX0 47 (374761393), Cond.instanceMethod yX5_init, Cond.code yX5_init cX5_init 1 none, Cond.methodLink RX5 3 objectInit]
def wsX6_init_r3 : List Cond := [Cond.fieldLink RX5 11 "NeighbourScores$Snapshots" "row" "[I", Cond.instanceMethod yX4_init, Cond.code yX4_init cX4_init 1 none, Cond.methodLink RX4 5 objectInit, Cond.fieldLink RX4 13 "NeighbourScores$Records" "row" "[I", Cond.instanceMethod yX2_init, Cond.code yX2_init cX2_init 1 none, Cond.methodLink RX2 3 objectInit, Cond.classLink RX2 9 "[[I", Cond.fieldLink RX2 11 "NeighbourScores$Ratings" "table" "[[I", Cond.fieldLink RX2 16 "NeighbourScores$Ratings" "dots" "[[I", Cond.instanceMethod yX1_init, Cond.code yX1_init cX1_init 1 none, Cond.methodLink RX1 3 objectInit, Cond.fieldLink RX1 9 "NeighbourScores$Ranking" "items" "[I", Cond.arrayClass .long, Cond.fieldLink RX1 15 "NeighbourScores$Ranking" "values" "[J", Cond.fieldLink RX1 19 "NeighbourScores$Ranking" "size" "I", Cond.methodLink RX6 46 yX3_init, Cond.instanceMethod yX3_init, Cond.code yX3_init cX3_init 2 none, Cond.methodLink RX3 3 objectInit, Cond.classLink RX3 9 RX1, Cond.fieldLink RX3 11 "NeighbourScores$Reading" "lists" "[LNeighbourScores$Ranking;"]
def wsX6_init_r4 : List Cond := [Cond.fieldLink RX3 17 "NeighbourScores$Reading" "found" "[J", Cond.fieldLink RX3 21 "NeighbourScores$Reading" "entries" "I"]
def wsX6_init : List Cond := .code yX6_init cX6_init 1 none :: ((wsX6_init_r1 ++ (wsX6_init_r2 ++ (wsX6_init_r3 ++ wsX6_init_r4))) ++ wsX00 ++ wsX60 ++ wsX50 ++ wsX40 ++ wsX20 ++ wsX10 ++ wsX30)
def wsX6_rate_r1 : List Cond := [Cond.fieldLink RX6 10 "NeighbourScores" "disk" "LNeighbourScores$Disk;", Cond.fieldLink RX6 51 "NeighbourScores" "systemNumber" "I", Cond.fieldLink RX6 55 "NeighbourScores" "baseNumber" "I", Cond.fieldLink RX6 26 "NeighbourScores" "records" "LNeighbourScores$Records;", Cond.fieldLink RX6 33 "NeighbourScores" "ratings" "LNeighbourScores$Ratings;", Cond.methodLink RX6 58 yX0_isPowered, Cond.instanceMethod yX0_isPowered, Cond.selects RX0 yX0_isPowered yX0_isPowered, Cond.initialized RX0, Cond.code yX0_isPowered cX0_isPowered 1 (some .boolean), Cond.fieldLink RX0 13 "NeighbourScores$Disk" "powered" "Z", Cond.methodLink RX6 62 yX6_isUser, Cond.static yX6_isUser, Cond.initialized RX6, Cond.code yX6_isUser cX6_isUser 1 (some .boolean), Cond.methodLink RX6 66 yX6_isItem, Cond.static yX6_isItem, Cond.code yX6_isItem cX6_isItem 1 (some .boolean), Cond.methodLink RX6 69 yX4_writeRecord, Cond.instanceMethod yX4_writeRecord, Cond.selects RX4 yX4_writeRecord yX4_writeRecord, Cond.initialized RX4, Cond.code yX4_writeRecord cX4_writeRecord 6 (some .boolean), Cond.fieldLink RX4 13 "NeighbourScores$Records" "row" "[I"]
def wsX6_rate_r2 : List Cond := [Cond.methodLink RX4 17 yX0_checkOf, Cond.static yX0_checkOf, Cond.code yX0_checkOf cX0_checkOf 6 (some .int), Cond.methodLink RX0 39 yX0_mix, Cond.static yX0_mix, Cond.code yX0_mix cX0_mix 3 (some .int), Cond.constant RX0 46 (668265263), Cond.constant RX0 47 (374761393), Cond.methodLink RX4 23 yX4_startOf, Cond.static yX4_startOf, Cond.code yX4_startOf cX4_startOf 1 (some .int), Cond.methodLink RX4 63 yJ9_floorMod_7cf53, Cond.static yJ9_floorMod_7cf53, Cond.initialized RJ9, Cond.code yJ9_floorMod_7cf53 cJ9_floorMod_7cf53 3 (some .int), Cond.methodLink RX4 27 yX0_writeRow, Cond.instanceMethod yX0_writeRow, Cond.selects RX0 yX0_writeRow yX0_writeRow, Cond.code yX0_writeRow cX0_writeRow 4 (some .boolean), Cond.methodLink RX0 31 yX0_writeWord, Cond.instanceMethod yX0_writeWord, Cond.selects RX0 yX0_writeWord yX0_writeWord, Cond.code yX0_writeWord cX0_writeWord 3 (some .boolean), Cond.fieldLink RX0 17 "NeighbourScores$Disk" "wordsToFailure" "I"]
def wsX6_rate_r3 : List Cond := [Cond.methodLink RX0 43 yX0_put, Cond.instanceMethod yX0_put, Cond.selects RX0 yX0_put yX0_put, Cond.code yX0_put cX0_put 3 (some .boolean), Cond.fieldLink RX0 9 "NeighbourScores$Disk" "words" "[I", Cond.methodLink RX0 27 yX0_has, Cond.instanceMethod yX0_has, Cond.selects RX0 yX0_has yX0_has, Cond.code yX0_has cX0_has 2 (some .boolean), Cond.methodLink RX6 73 yX2_at, Cond.instanceMethod yX2_at, Cond.selects RX2 yX2_at yX2_at, Cond.initialized RX2, Cond.code yX2_at cX2_at 3 (some .int), Cond.fieldLink RX2 11 "NeighbourScores$Ratings" "table" "[[I", Cond.methodLink RX6 77 yX2_set, Cond.instanceMethod yX2_set, Cond.selects RX2 yX2_set yX2_set, Cond.code yX2_set cX2_set 7 none, Cond.fieldLink RX2 16 "NeighbourScores$Ratings" "dots" "[[I"]
def wsX6_rate : List Cond := .code yX6_rate cX6_rate 5 (some .int) :: ((wsX6_rate_r1 ++ (wsX6_rate_r2 ++ wsX6_rate_r3)) ++ wsX60 ++ wsX00 ++ wsX40 ++ wsX20)
def wsX6_snapshot_r1 : List Cond := [Cond.fieldLink RX6 10 "NeighbourScores" "disk" "LNeighbourScores$Disk;", Cond.fieldLink RX6 19 "NeighbourScores" "snapshots" "LNeighbourScores$Snapshots;", Cond.fieldLink RX6 51 "NeighbourScores" "systemNumber" "I", Cond.fieldLink RX6 33 "NeighbourScores" "ratings" "LNeighbourScores$Ratings;", Cond.fieldLink RX6 55 "NeighbourScores" "baseNumber" "I", Cond.methodLink RX6 58 yX0_isPowered, Cond.instanceMethod yX0_isPowered, Cond.selects RX0 yX0_isPowered yX0_isPowered, Cond.initialized RX0, Cond.code yX0_isPowered cX0_isPowered 1 (some .boolean), Cond.fieldLink RX0 13 "NeighbourScores$Disk" "powered" "Z", Cond.methodLink RX6 81 yX5_writeOverOlder, Cond.instanceMethod yX5_writeOverOlder, Cond.selects RX5 yX5_writeOverOlder yX5_writeOverOlder, Cond.initialized RX5, Cond.code yX5_writeOverOlder cX5_writeOverOlder 6 (some .boolean), Cond.fieldLink RX5 11 "NeighbourScores$Snapshots" "row" "[I", Cond.methodLink RX5 15 yX5_placeOf, Cond.static yX5_placeOf, Cond.code yX5_placeOf cX5_placeOf 2 (some .int), Cond.methodLink RX5 19 yX2_packed, Cond.instanceMethod yX2_packed, Cond.selects RX2 yX2_packed yX2_packed, Cond.initialized RX2]
def wsX6_snapshot_r2 : List Cond := [Cond.code yX2_packed cX2_packed 5 (some .int), Cond.fieldLink RX2 11 "NeighbourScores$Ratings" "table" "[[I", Cond.methodLink RX5 24 yX0_checkOf, Cond.static yX0_checkOf, Cond.code yX0_checkOf cX0_checkOf 6 (some .int), Cond.methodLink RX0 39 yX0_mix, Cond.static yX0_mix, Cond.code yX0_mix cX0_mix 3 (some .int), Cond.constant RX0 46 (668265263), Cond.constant RX0 47 (374761393), Cond.methodLink RX5 30 yX5_newest, Cond.static yX5_newest, Cond.code yX5_newest cX5_newest 3 (some .int), Cond.methodLink RX5 52 yX5_isGood, Cond.static yX5_isGood, Cond.code yX5_isGood cX5_isGood 4 (some .boolean), Cond.constant RX5 56 (1000000000), Cond.methodLink RX5 34 yX5_startOf, Cond.static yX5_startOf, Cond.code yX5_startOf cX5_startOf 1 (some .int), Cond.methodLink RX5 45 yX0_at, Cond.instanceMethod yX0_at, Cond.selects RX0 yX0_at yX0_at, Cond.code yX0_at cX0_at 2 (some .int)]
def wsX6_snapshot_r3 : List Cond := [Cond.fieldLink RX0 9 "NeighbourScores$Disk" "words" "[I", Cond.methodLink RX0 27 yX0_has, Cond.instanceMethod yX0_has, Cond.selects RX0 yX0_has yX0_has, Cond.code yX0_has cX0_has 2 (some .boolean), Cond.methodLink RX5 57 yX0_isCheckRight, Cond.instanceMethod yX0_isCheckRight, Cond.selects RX0 yX0_isCheckRight yX0_isCheckRight, Cond.code yX0_isCheckRight cX0_isCheckRight 4 (some .boolean), Cond.methodLink RX0 35 yX0_at, Cond.methodLink RX0 23 yX0_checkOf, Cond.methodLink RX5 38 yX0_writeRow, Cond.instanceMethod yX0_writeRow, Cond.selects RX0 yX0_writeRow yX0_writeRow, Cond.code yX0_writeRow cX0_writeRow 4 (some .boolean), Cond.methodLink RX0 31 yX0_writeWord, Cond.instanceMethod yX0_writeWord, Cond.selects RX0 yX0_writeWord yX0_writeWord, Cond.code yX0_writeWord cX0_writeWord 3 (some .boolean), Cond.fieldLink RX0 17 "NeighbourScores$Disk" "wordsToFailure" "I", Cond.methodLink RX0 43 yX0_put, Cond.instanceMethod yX0_put, Cond.selects RX0 yX0_put yX0_put, Cond.code yX0_put cX0_put 3 (some .boolean)]
def wsX6_snapshot : List Cond := .code yX6_snapshot cX6_snapshot 1 (some .int) :: ((wsX6_snapshot_r1 ++ (wsX6_snapshot_r2 ++ wsX6_snapshot_r3)) ++ wsX60 ++ wsX00 ++ wsX50 ++ wsX20)
def wsX6_power : List Cond := .code yX6_power cX6_power 2 (some .boolean) :: ([.fieldLink RX6 10 "NeighbourScores" "disk" "LNeighbourScores$Disk;", .methodLink RX6 85 yX0_failAfter, .instanceMethod yX0_failAfter, .selects RX0 yX0_failAfter yX0_failAfter, .initialized RX0, .code yX0_failAfter cX0_failAfter 2 none, .fieldLink RX0 17 "NeighbourScores$Disk" "wordsToFailure" "I"] ++ wsX60 ++ wsX00)
def wsX6_restart_r1 : List Cond := [Cond.fieldLink RX6 10 "NeighbourScores" "disk" "LNeighbourScores$Disk;", Cond.fieldLink RX6 33 "NeighbourScores" "ratings" "LNeighbourScores$Ratings;", Cond.fieldLink RX6 55 "NeighbourScores" "baseNumber" "I", Cond.fieldLink RX6 51 "NeighbourScores" "systemNumber" "I", Cond.methodLink RX6 89 yX0_switchOn, Cond.instanceMethod yX0_switchOn, Cond.selects RX0 yX0_switchOn yX0_switchOn, Cond.initialized RX0, Cond.code yX0_switchOn cX0_switchOn 1 none, Cond.fieldLink RX0 13 "NeighbourScores$Disk" "powered" "Z", Cond.fieldLink RX0 17 "NeighbourScores$Disk" "wordsToFailure" "I", Cond.methodLink RX6 92 yX5_loadNewest, Cond.static yX5_loadNewest, Cond.initialized RX5, Cond.code yX5_loadNewest cX5_loadNewest 6 (some .int), Cond.methodLink RX5 30 yX5_newest, Cond.static yX5_newest, Cond.code yX5_newest cX5_newest 3 (some .int), Cond.methodLink RX5 52 yX5_isGood, Cond.static yX5_isGood, Cond.code yX5_isGood cX5_isGood 4 (some .boolean), Cond.constant RX5 56 (1000000000), Cond.methodLink RX5 34 yX5_startOf, Cond.static yX5_startOf]
def wsX6_restart_r2 : List Cond := [Cond.code yX5_startOf cX5_startOf 1 (some .int), Cond.methodLink RX5 45 yX0_at, Cond.instanceMethod yX0_at, Cond.selects RX0 yX0_at yX0_at, Cond.code yX0_at cX0_at 2 (some .int), Cond.fieldLink RX0 9 "NeighbourScores$Disk" "words" "[I", Cond.methodLink RX0 27 yX0_has, Cond.instanceMethod yX0_has, Cond.selects RX0 yX0_has yX0_has, Cond.code yX0_has cX0_has 2 (some .boolean), Cond.methodLink RX5 57 yX0_isCheckRight, Cond.instanceMethod yX0_isCheckRight, Cond.selects RX0 yX0_isCheckRight yX0_isCheckRight, Cond.code yX0_isCheckRight cX0_isCheckRight 4 (some .boolean), Cond.methodLink RX0 35 yX0_at, Cond.methodLink RX0 23 yX0_checkOf, Cond.static yX0_checkOf, Cond.code yX0_checkOf cX0_checkOf 6 (some .int), Cond.methodLink RX0 39 yX0_mix, Cond.static yX0_mix, Cond.code yX0_mix cX0_mix 3 (some .int), Cond.constant RX0 46 (668265263), Cond.constant RX0 47 (374761393), Cond.methodLink RX5 42 yX2_clear]
def wsX6_restart_r3 : List Cond := [Cond.instanceMethod yX2_clear, Cond.selects RX2 yX2_clear yX2_clear, Cond.initialized RX2, Cond.code yX2_clear cX2_clear 3 none, Cond.methodLink RX2 19 yX2_set, Cond.instanceMethod yX2_set, Cond.selects RX2 yX2_set yX2_set, Cond.code yX2_set cX2_set 7 none, Cond.fieldLink RX2 11 "NeighbourScores$Ratings" "table" "[[I", Cond.fieldLink RX2 16 "NeighbourScores$Ratings" "dots" "[[I", Cond.methodLink RX5 15 yX5_placeOf, Cond.static yX5_placeOf, Cond.code yX5_placeOf cX5_placeOf 2 (some .int), Cond.methodLink RX5 48 yX2_unpack, Cond.instanceMethod yX2_unpack, Cond.selects RX2 yX2_unpack yX2_unpack, Cond.code yX2_unpack cX2_unpack 6 none, Cond.methodLink RX6 96 yX4_holds, Cond.static yX4_holds, Cond.initialized RX4, Cond.code yX4_holds cX4_holds 3 (some .boolean), Cond.methodLink RX4 23 yX4_startOf, Cond.static yX4_startOf, Cond.code yX4_startOf cX4_startOf 1 (some .int)]
def wsX6_restart_r4 : List Cond := [Cond.methodLink RX4 63 yJ9_floorMod_7cf53, Cond.static yJ9_floorMod_7cf53, Cond.initialized RJ9, Cond.code yJ9_floorMod_7cf53 cJ9_floorMod_7cf53 3 (some .int), Cond.methodLink RX4 31 yX0_at, Cond.methodLink RX4 34 yX0_isCheckRight, Cond.methodLink RX4 38 yX4_namesRating, Cond.static yX4_namesRating, Cond.code yX4_namesRating cX4_namesRating 1 (some .boolean), Cond.methodLink RX4 42 yX4_userIn, Cond.static yX4_userIn, Cond.code yX4_userIn cX4_userIn 1 (some .int), Cond.static yX6_isUser, Cond.initialized RX6, Cond.code yX6_isUser cX6_isUser 1 (some .boolean), Cond.methodLink RX4 45 yX4_itemIn, Cond.static yX4_itemIn, Cond.code yX4_itemIn cX4_itemIn 1 (some .int), Cond.static yX6_isItem, Cond.code yX6_isItem cX6_isItem 1 (some .boolean), Cond.methodLink RX4 48 yX4_ratingIn, Cond.static yX4_ratingIn, Cond.code yX4_ratingIn cX4_ratingIn 1 (some .int), Cond.methodLink RX6 100 yX4_repeat]
def wsX6_restart_r5 : List Cond := [Cond.static yX4_repeat, Cond.code yX4_repeat cX4_repeat 4 none, Cond.methodLink RX4 51 yX2_set]
def wsX6_restart : List Cond := .code yX6_restart cX6_restart 2 (some .int) :: ((wsX6_restart_r1 ++ (wsX6_restart_r2 ++ (wsX6_restart_r3 ++ (wsX6_restart_r4 ++ wsX6_restart_r5)))) ++ wsX60 ++ wsX00 ++ wsX20)
def wsX6_isOn : List Cond := .code yX6_isOn cX6_isOn 1 (some .boolean) :: ([.fieldLink RX6 10 "NeighbourScores" "disk" "LNeighbourScores$Disk;", .methodLink RX6 58 yX0_isPowered, .instanceMethod yX0_isPowered, .selects RX0 yX0_isPowered yX0_isPowered, .initialized RX0, .code yX0_isPowered cX0_isPowered 1 (some .boolean), .fieldLink RX0 13 "NeighbourScores$Disk" "powered" "Z"] ++ wsX60 ++ wsX00)
def wsX6_word : List Cond := .code yX6_word cX6_word 2 (some .int) :: ([.fieldLink RX6 10 "NeighbourScores" "disk" "LNeighbourScores$Disk;", .methodLink RX6 104 yX0_at, .instanceMethod yX0_at, .selects RX0 yX0_at yX0_at, .initialized RX0, .code yX0_at cX0_at 2 (some .int), .fieldLink RX0 9 "NeighbourScores$Disk" "words" "[I", .methodLink RX0 27 yX0_has, .instanceMethod yX0_has, .selects RX0 yX0_has yX0_has, .code yX0_has cX0_has 2 (some .boolean)] ++ wsX60 ++ wsX00)
def wsX6_spoil : List Cond := .code yX6_spoil cX6_spoil 3 (some .boolean) :: ([.fieldLink RX6 10 "NeighbourScores" "disk" "LNeighbourScores$Disk;", .methodLink RX6 107 yX0_put, .instanceMethod yX0_put, .selects RX0 yX0_put yX0_put, .initialized RX0, .code yX0_put cX0_put 3 (some .boolean), .fieldLink RX0 9 "NeighbourScores$Disk" "words" "[I", .methodLink RX0 27 yX0_has, .instanceMethod yX0_has, .selects RX0 yX0_has yX0_has, .code yX0_has cX0_has 2 (some .boolean)] ++ wsX60 ++ wsX00)
def wsX6_rating : List Cond := .code yX6_rating cX6_rating 3 (some .int) :: ([.fieldLink RX6 10 "NeighbourScores" "disk" "LNeighbourScores$Disk;", .fieldLink RX6 33 "NeighbourScores" "ratings" "LNeighbourScores$Ratings;", .methodLink RX6 58 yX0_isPowered, .instanceMethod yX0_isPowered, .selects RX0 yX0_isPowered yX0_isPowered, .initialized RX0, .code yX0_isPowered cX0_isPowered 1 (some .boolean), .fieldLink RX0 13 "NeighbourScores$Disk" "powered" "Z", .methodLink RX6 62 yX6_isUser, .static yX6_isUser, .initialized RX6, .code yX6_isUser cX6_isUser 1 (some .boolean), .methodLink RX6 66 yX6_isItem, .static yX6_isItem, .code yX6_isItem cX6_isItem 1 (some .boolean), .methodLink RX6 73 yX2_at, .instanceMethod yX2_at, .selects RX2 yX2_at yX2_at, .initialized RX2, .code yX2_at cX2_at 3 (some .int), .fieldLink RX2 11 "NeighbourScores$Ratings" "table" "[[I"] ++ wsX60 ++ wsX00 ++ wsX20)
def wsX6_weight : List Cond := .code yX6_weight cX6_weight 3 (some .int) :: ([.fieldLink RX6 10 "NeighbourScores" "disk" "LNeighbourScores$Disk;", .fieldLink RX6 33 "NeighbourScores" "ratings" "LNeighbourScores$Ratings;", .methodLink RX6 58 yX0_isPowered, .instanceMethod yX0_isPowered, .selects RX0 yX0_isPowered yX0_isPowered, .initialized RX0, .code yX0_isPowered cX0_isPowered 1 (some .boolean), .fieldLink RX0 13 "NeighbourScores$Disk" "powered" "Z", .methodLink RX6 66 yX6_isItem, .static yX6_isItem, .initialized RX6, .code yX6_isItem cX6_isItem 1 (some .boolean), .methodLink RX6 111 yX2_weightOf, .instanceMethod yX2_weightOf, .selects RX2 yX2_weightOf yX2_weightOf, .initialized RX2, .code yX2_weightOf cX2_weightOf 7 (some .int), .fieldLink RX2 16 "NeighbourScores$Ratings" "dots" "[[I", .constantLong RX2 23 (1048576)] ++ wsX60 ++ wsX00 ++ wsX20)
def wsX6_neighbour_r1 : List Cond := [Cond.fieldLink RX6 10 "NeighbourScores" "disk" "LNeighbourScores$Disk;", Cond.fieldLink RX6 40 "NeighbourScores" "ranking" "LNeighbourScores$Ranking;", Cond.fieldLink RX6 33 "NeighbourScores" "ratings" "LNeighbourScores$Ratings;", Cond.methodLink RX6 58 yX0_isPowered, Cond.instanceMethod yX0_isPowered, Cond.selects RX0 yX0_isPowered yX0_isPowered, Cond.initialized RX0, Cond.code yX0_isPowered cX0_isPowered 1 (some .boolean), Cond.fieldLink RX0 13 "NeighbourScores$Disk" "powered" "Z", Cond.methodLink RX6 66 yX6_isItem, Cond.static yX6_isItem, Cond.initialized RX6, Cond.code yX6_isItem cX6_isItem 1 (some .boolean), Cond.methodLink RX6 114 yX1_rankNeighbours, Cond.instanceMethod yX1_rankNeighbours, Cond.selects RX1 yX1_rankNeighbours yX1_rankNeighbours, Cond.initialized RX1, Cond.code yX1_rankNeighbours cX1_rankNeighbours 4 none, Cond.methodLink RX1 23 yX1_clear, Cond.instanceMethod yX1_clear, Cond.selects RX1 yX1_clear yX1_clear, Cond.code yX1_clear cX1_clear 1 none, Cond.fieldLink RX1 19 "NeighbourScores$Ranking" "size" "I", Cond.methodLink RX1 26 yX2_weightOf]
def wsX6_neighbour_r2 : List Cond := [Cond.instanceMethod yX2_weightOf, Cond.selects RX2 yX2_weightOf yX2_weightOf, Cond.initialized RX2, Cond.code yX2_weightOf cX2_weightOf 7 (some .int), Cond.fieldLink RX2 16 "NeighbourScores$Ratings" "dots" "[[I", Cond.constantLong RX2 23 (1048576), Cond.methodLink RX1 32 yX1_add, Cond.instanceMethod yX1_add, Cond.selects RX1 yX1_add yX1_add, Cond.code yX1_add cX1_add 5 none, Cond.fieldLink RX1 15 "NeighbourScores$Ranking" "values" "[J", Cond.fieldLink RX1 9 "NeighbourScores$Ranking" "items" "[I", Cond.methodLink RX6 118 yX1_itemAt, Cond.instanceMethod yX1_itemAt, Cond.selects RX1 yX1_itemAt yX1_itemAt, Cond.code yX1_itemAt cX1_itemAt 2 (some .int), Cond.methodLink RX1 43 yX1_has, Cond.instanceMethod yX1_has, Cond.selects RX1 yX1_has yX1_has, Cond.code yX1_has cX1_has 2 (some .boolean)]
def wsX6_neighbour : List Cond := .code yX6_neighbour cX6_neighbour 3 (some .int) :: ((wsX6_neighbour_r1 ++ wsX6_neighbour_r2) ++ wsX60 ++ wsX00 ++ wsX10 ++ wsX20)
def wsX6_score_r1 : List Cond := [Cond.fieldLink RX6 10 "NeighbourScores" "disk" "LNeighbourScores$Disk;", Cond.constantLong RX6 121 (-3), Cond.constantLong RX6 123 (-2), Cond.fieldLink RX6 33 "NeighbourScores" "ratings" "LNeighbourScores$Ratings;", Cond.methodLink RX6 58 yX0_isPowered, Cond.instanceMethod yX0_isPowered, Cond.selects RX0 yX0_isPowered yX0_isPowered, Cond.initialized RX0, Cond.code yX0_isPowered cX0_isPowered 1 (some .boolean), Cond.fieldLink RX0 13 "NeighbourScores$Disk" "powered" "Z", Cond.methodLink RX6 62 yX6_isUser, Cond.static yX6_isUser, Cond.initialized RX6, Cond.code yX6_isUser cX6_isUser 1 (some .boolean), Cond.methodLink RX6 66 yX6_isItem, Cond.static yX6_isItem, Cond.code yX6_isItem cX6_isItem 1 (some .boolean), Cond.methodLink RX6 125 yX2_scoreOf, Cond.instanceMethod yX2_scoreOf, Cond.selects RX2 yX2_scoreOf yX2_scoreOf, Cond.initialized RX2, Cond.code yX2_scoreOf cX2_scoreOf 6 (some .long), Cond.methodLink RX2 29 yX2_shareOf, Cond.instanceMethod yX2_shareOf]
def wsX6_score_r2 : List Cond := [Cond.selects RX2 yX2_shareOf yX2_shareOf, Cond.code yX2_shareOf cX2_shareOf 4 (some .long), Cond.fieldLink RX2 11 "NeighbourScores$Ratings" "table" "[[I", Cond.methodLink RX2 25 yX2_weightOf, Cond.instanceMethod yX2_weightOf, Cond.selects RX2 yX2_weightOf yX2_weightOf, Cond.code yX2_weightOf cX2_weightOf 7 (some .int), Cond.fieldLink RX2 16 "NeighbourScores$Ratings" "dots" "[[I", Cond.constantLong RX2 23 (1048576)]
def wsX6_score : List Cond := .code yX6_score cX6_score 3 (some .long) :: ((wsX6_score_r1 ++ wsX6_score_r2) ++ wsX60 ++ wsX00 ++ wsX20)
def wsX6_best_r1 : List Cond := [Cond.fieldLink RX6 10 "NeighbourScores" "disk" "LNeighbourScores$Disk;", Cond.fieldLink RX6 40 "NeighbourScores" "ranking" "LNeighbourScores$Ranking;", Cond.fieldLink RX6 33 "NeighbourScores" "ratings" "LNeighbourScores$Ratings;", Cond.methodLink RX6 58 yX0_isPowered, Cond.instanceMethod yX0_isPowered, Cond.selects RX0 yX0_isPowered yX0_isPowered, Cond.initialized RX0, Cond.code yX0_isPowered cX0_isPowered 1 (some .boolean), Cond.fieldLink RX0 13 "NeighbourScores$Disk" "powered" "Z", Cond.methodLink RX6 62 yX6_isUser, Cond.static yX6_isUser, Cond.initialized RX6, Cond.code yX6_isUser cX6_isUser 1 (some .boolean), Cond.methodLink RX6 129 yX1_rankBest, Cond.instanceMethod yX1_rankBest, Cond.selects RX1 yX1_rankBest yX1_rankBest, Cond.initialized RX1, Cond.code yX1_rankBest cX1_rankBest 4 none, Cond.methodLink RX1 23 yX1_clear, Cond.instanceMethod yX1_clear, Cond.selects RX1 yX1_clear yX1_clear, Cond.code yX1_clear cX1_clear 1 none, Cond.fieldLink RX1 19 "NeighbourScores$Ranking" "size" "I", Cond.methodLink RX1 36 yX2_at]
def wsX6_best_r2 : List Cond := [Cond.instanceMethod yX2_at, Cond.selects RX2 yX2_at yX2_at, Cond.initialized RX2, Cond.code yX2_at cX2_at 3 (some .int), Cond.fieldLink RX2 11 "NeighbourScores$Ratings" "table" "[[I", Cond.methodLink RX1 39 yX2_scoreOf, Cond.instanceMethod yX2_scoreOf, Cond.selects RX2 yX2_scoreOf yX2_scoreOf, Cond.code yX2_scoreOf cX2_scoreOf 6 (some .long), Cond.methodLink RX2 29 yX2_shareOf, Cond.instanceMethod yX2_shareOf, Cond.selects RX2 yX2_shareOf yX2_shareOf, Cond.code yX2_shareOf cX2_shareOf 4 (some .long), Cond.methodLink RX2 25 yX2_weightOf, Cond.instanceMethod yX2_weightOf, Cond.selects RX2 yX2_weightOf yX2_weightOf, Cond.code yX2_weightOf cX2_weightOf 7 (some .int), Cond.fieldLink RX2 16 "NeighbourScores$Ratings" "dots" "[[I", Cond.constantLong RX2 23 (1048576), Cond.methodLink RX1 32 yX1_add, Cond.instanceMethod yX1_add, Cond.selects RX1 yX1_add yX1_add, Cond.code yX1_add cX1_add 5 none, Cond.fieldLink RX1 15 "NeighbourScores$Ranking" "values" "[J"]
def wsX6_best_r3 : List Cond := [Cond.fieldLink RX1 9 "NeighbourScores$Ranking" "items" "[I", Cond.methodLink RX6 118 yX1_itemAt, Cond.instanceMethod yX1_itemAt, Cond.selects RX1 yX1_itemAt yX1_itemAt, Cond.code yX1_itemAt cX1_itemAt 2 (some .int), Cond.methodLink RX1 43 yX1_has, Cond.instanceMethod yX1_has, Cond.selects RX1 yX1_has yX1_has, Cond.code yX1_has cX1_has 2 (some .boolean)]
def wsX6_best : List Cond := .code yX6_best cX6_best 3 (some .int) :: ((wsX6_best_r1 ++ (wsX6_best_r2 ++ wsX6_best_r3)) ++ wsX60 ++ wsX00 ++ wsX10 ++ wsX20)
def wsX6_reads_r1 : List Cond := [Cond.fieldLink RX6 10 "NeighbourScores" "disk" "LNeighbourScores$Disk;", Cond.fieldLink RX6 47 "NeighbourScores" "reading" "LNeighbourScores$Reading;", Cond.fieldLink RX6 33 "NeighbourScores" "ratings" "LNeighbourScores$Ratings;", Cond.methodLink RX6 58 yX0_isPowered, Cond.instanceMethod yX0_isPowered, Cond.selects RX0 yX0_isPowered yX0_isPowered, Cond.initialized RX0, Cond.code yX0_isPowered cX0_isPowered 1 (some .boolean), Cond.fieldLink RX0 13 "NeighbourScores$Disk" "powered" "Z", Cond.methodLink RX6 62 yX6_isUser, Cond.static yX6_isUser, Cond.initialized RX6, Cond.code yX6_isUser cX6_isUser 1 (some .boolean), Cond.methodLink RX6 132 yX3_countEntries, Cond.instanceMethod yX3_countEntries, Cond.selects RX3 yX3_countEntries yX3_countEntries, Cond.initialized RX3, Cond.code yX3_countEntries cX3_countEntries 7 (some .int), Cond.fieldLink RX3 21 "NeighbourScores$Reading" "entries" "I", Cond.methodLink RX3 26 yX3_begin, Cond.instanceMethod yX3_begin, Cond.selects RX3 yX3_begin yX3_begin, Cond.code yX3_begin cX3_begin 4 none, Cond.fieldLink RX3 17 "NeighbourScores$Reading" "found" "[J"]
def wsX6_reads_r2 : List Cond := [Cond.fieldLink RX3 11 "NeighbourScores$Reading" "lists" "[LNeighbourScores$Ranking;", Cond.methodLink RX3 42 yX1_clear, Cond.instanceMethod yX1_clear, Cond.selects RX1 yX1_clear yX1_clear, Cond.initialized RX1, Cond.code yX1_clear cX1_clear 1 none, Cond.fieldLink RX1 19 "NeighbourScores$Ranking" "size" "I", Cond.methodLink RX3 45 yX2_at, Cond.instanceMethod yX2_at, Cond.selects RX2 yX2_at yX2_at, Cond.initialized RX2, Cond.code yX2_at cX2_at 3 (some .int), Cond.fieldLink RX2 11 "NeighbourScores$Ratings" "table" "[[I", Cond.methodLink RX3 51 yX1_rankNeighbours, Cond.instanceMethod yX1_rankNeighbours, Cond.selects RX1 yX1_rankNeighbours yX1_rankNeighbours, Cond.code yX1_rankNeighbours cX1_rankNeighbours 4 none, Cond.methodLink RX1 23 yX1_clear, Cond.methodLink RX1 26 yX2_weightOf, Cond.instanceMethod yX2_weightOf, Cond.selects RX2 yX2_weightOf yX2_weightOf, Cond.code yX2_weightOf cX2_weightOf 7 (some .int), Cond.fieldLink RX2 16 "NeighbourScores$Ratings" "dots" "[[I", Cond.constantLong RX2 23 (1048576)]
def wsX6_reads_r3 : List Cond := [Cond.methodLink RX1 32 yX1_add, Cond.instanceMethod yX1_add, Cond.selects RX1 yX1_add yX1_add, Cond.code yX1_add cX1_add 5 none, Cond.fieldLink RX1 15 "NeighbourScores$Ranking" "values" "[J", Cond.fieldLink RX1 9 "NeighbourScores$Ranking" "items" "[I", Cond.methodLink RX3 30 yX3_isEntryLeft, Cond.instanceMethod yX3_isEntryLeft, Cond.selects RX3 yX3_isEntryLeft yX3_isEntryLeft, Cond.code yX3_isEntryLeft cX3_isEntryLeft 3 (some .boolean), Cond.methodLink RX3 54 yX1_has, Cond.instanceMethod yX1_has, Cond.selects RX1 yX1_has yX1_has, Cond.code yX1_has cX1_has 2 (some .boolean), Cond.methodLink RX3 34 yX3_readRound, Cond.instanceMethod yX3_readRound, Cond.selects RX3 yX3_readRound yX3_readRound, Cond.code yX3_readRound cX3_readRound 7 (some .long), Cond.methodLink RX3 57 yX1_valueAt, Cond.instanceMethod yX1_valueAt, Cond.selects RX1 yX1_valueAt yX1_valueAt, Cond.code yX1_valueAt cX1_valueAt 2 (some .long), Cond.methodLink RX1 43 yX1_has, Cond.methodLink RX3 61 yX1_itemAt]
def wsX6_reads_r4 : List Cond := [Cond.instanceMethod yX1_itemAt, Cond.selects RX1 yX1_itemAt yX1_itemAt, Cond.code yX1_itemAt cX1_itemAt 2 (some .int), Cond.methodLink RX3 65 yX3_find, Cond.instanceMethod yX3_find, Cond.selects RX3 yX3_find yX3_find, Cond.code yX3_find cX3_find 4 none, Cond.methodLink RX3 69 yX2_scoreOf, Cond.instanceMethod yX2_scoreOf, Cond.selects RX2 yX2_scoreOf yX2_scoreOf, Cond.code yX2_scoreOf cX2_scoreOf 6 (some .long), Cond.methodLink RX2 29 yX2_shareOf, Cond.instanceMethod yX2_shareOf, Cond.selects RX2 yX2_shareOf yX2_shareOf, Cond.code yX2_shareOf cX2_shareOf 4 (some .long), Cond.methodLink RX2 25 yX2_weightOf, Cond.methodLink RX3 38 yX3_countFoundAbove, Cond.instanceMethod yX3_countFoundAbove, Cond.selects RX3 yX3_countFoundAbove yX3_countFoundAbove, Cond.code yX3_countFoundAbove cX3_countFoundAbove 5 (some .int)]
def wsX6_reads : List Cond := .code yX6_reads cX6_reads 3 (some .int) :: ((wsX6_reads_r1 ++ (wsX6_reads_r2 ++ (wsX6_reads_r3 ++ wsX6_reads_r4))) ++ wsX60 ++ wsX00 ++ wsX30 ++ wsX10 ++ wsX20)
def wsX6_share_r1 : List Cond := [Cond.fieldLink RX6 10 "NeighbourScores" "disk" "LNeighbourScores$Disk;", Cond.constantLong RX6 121 (-3), Cond.constantLong RX6 123 (-2), Cond.fieldLink RX6 33 "NeighbourScores" "ratings" "LNeighbourScores$Ratings;", Cond.methodLink RX6 58 yX0_isPowered, Cond.instanceMethod yX0_isPowered, Cond.selects RX0 yX0_isPowered yX0_isPowered, Cond.initialized RX0, Cond.code yX0_isPowered cX0_isPowered 1 (some .boolean), Cond.fieldLink RX0 13 "NeighbourScores$Disk" "powered" "Z", Cond.methodLink RX6 62 yX6_isUser, Cond.static yX6_isUser, Cond.initialized RX6, Cond.code yX6_isUser cX6_isUser 1 (some .boolean), Cond.methodLink RX6 66 yX6_isItem, Cond.static yX6_isItem, Cond.code yX6_isItem cX6_isItem 1 (some .boolean), Cond.methodLink RX6 136 yX2_shareOf, Cond.instanceMethod yX2_shareOf, Cond.selects RX2 yX2_shareOf yX2_shareOf, Cond.initialized RX2, Cond.code yX2_shareOf cX2_shareOf 4 (some .long), Cond.fieldLink RX2 11 "NeighbourScores$Ratings" "table" "[[I", Cond.methodLink RX2 25 yX2_weightOf]
def wsX6_share_r2 : List Cond := [Cond.instanceMethod yX2_weightOf, Cond.selects RX2 yX2_weightOf yX2_weightOf, Cond.code yX2_weightOf cX2_weightOf 7 (some .int), Cond.fieldLink RX2 16 "NeighbourScores$Ratings" "dots" "[[I", Cond.constantLong RX2 23 (1048576)]
def wsX6_share : List Cond := .code yX6_share cX6_share 4 (some .long) :: ((wsX6_share_r1 ++ wsX6_share_r2) ++ wsX60 ++ wsX00 ++ wsX20)
def wsX6_number : List Cond := .code yX6_number cX6_number 2 (some .int) :: ([.fieldLink RX6 10 "NeighbourScores" "disk" "LNeighbourScores$Disk;", .fieldLink RX6 51 "NeighbourScores" "systemNumber" "I", .fieldLink RX6 55 "NeighbourScores" "baseNumber" "I", .fieldLink RX6 33 "NeighbourScores" "ratings" "LNeighbourScores$Ratings;", .methodLink RX6 58 yX0_isPowered, .instanceMethod yX0_isPowered, .selects RX0 yX0_isPowered yX0_isPowered, .initialized RX0, .code yX0_isPowered cX0_isPowered 1 (some .boolean), .fieldLink RX0 13 "NeighbourScores$Disk" "powered" "Z", .methodLink RX6 140 yX2_countRated, .instanceMethod yX2_countRated, .selects RX2 yX2_countRated yX2_countRated, .initialized RX2, .code yX2_countRated cX2_countRated 4 (some .int), .fieldLink RX2 11 "NeighbourScores$Ratings" "table" "[[I"] ++ wsX60 ++ wsX00 ++ wsX20)
def wsX7_mix : List Cond := .code yX7_mix cX7_mix 3 (some .int) :: ([.constant RX7 35 (668265263), .constant RX7 36 (374761393)])
def wsX7_checked : List Cond := .code yX7_checked cX7_checked 6 (some .int) :: ([.fieldLink RX7 13 "NeighbourScoresModel" "disk" "[I", .methodLink RX7 37 yX7_mix, .static yX7_mix, .initialized RX7, .code yX7_mix cX7_mix 3 (some .int), .constant RX7 35 (668265263), .constant RX7 36 (374761393)] ++ wsX70)
def wsX7_init : List Cond := .code yX7_init cX7_init 1 none :: ([.methodLink RX7 1 objectInit, .instanceMethod objectInit, .code objectInit ⟨#[0xb1]⟩ 1 none, .arrayClass .int, .fieldLink RX7 7 "NeighbourScoresModel" "rated" "[I", .fieldLink RX7 13 "NeighbourScoresModel" "disk" "[I", .fieldLink RX7 16 "NeighbourScoresModel" "left" "I", .fieldLink RX7 20 "NeighbourScoresModel" "weights" "[I", .arrayClass .long, .fieldLink RX7 23 "NeighbourScoresModel" "scores" "[J", .arrayClass .boolean, .fieldLink RX7 27 "NeighbourScoresModel" "met" "[Z", .methodLink RX7 31 yX7_checked, .instanceMethod yX7_checked, .selects RX7 yX7_checked yX7_checked, .initialized RX7, .code yX7_checked cX7_checked 6 (some .int), .methodLink RX7 37 yX7_mix, .static yX7_mix, .code yX7_mix cX7_mix 3 (some .int), .constant RX7 35 (668265263), .constant RX7 36 (374761393)] ++ wsX70)
def wsX7_noUser : List Cond := .code yX7_noUser cX7_noUser 1 (some .boolean) :: ([])
def wsX7_noItem : List Cond := .code yX7_noItem cX7_noItem 1 (some .boolean) :: ([])
def wsX7_put : List Cond := .code yX7_put cX7_put 3 none :: ([.fieldLink RX7 41 "NeighbourScoresModel" "dark" "Z", .fieldLink RX7 16 "NeighbourScoresModel" "left" "I", .fieldLink RX7 13 "NeighbourScoresModel" "disk" "[I"] ++ wsX70)
def wsX7_rate : List Cond := .code yX7_rate cX7_rate 8 (some .int) :: ([.fieldLink RX7 41 "NeighbourScoresModel" "dark" "Z", .fieldLink RX7 52 "NeighbourScoresModel" "current" "I", .fieldLink RX7 55 "NeighbourScoresModel" "base" "I", .fieldLink RX7 7 "NeighbourScoresModel" "rated" "[I", .methodLink RX7 45 yX7_noUser, .static yX7_noUser, .initialized RX7, .code yX7_noUser cX7_noUser 1 (some .boolean), .methodLink RX7 49 yX7_noItem, .static yX7_noItem, .code yX7_noItem cX7_noItem 1 (some .boolean), .methodLink RX7 58 yX7_put, .instanceMethod yX7_put, .selects RX7 yX7_put yX7_put, .code yX7_put cX7_put 3 none, .fieldLink RX7 16 "NeighbourScoresModel" "left" "I", .fieldLink RX7 13 "NeighbourScoresModel" "disk" "[I", .methodLink RX7 37 yX7_mix, .static yX7_mix, .code yX7_mix cX7_mix 3 (some .int), .constant RX7 35 (668265263), .constant RX7 36 (374761393)] ++ wsX70)
def wsX7_good : List Cond := .code yX7_good cX7_good 2 (some .boolean) :: ([.fieldLink RX7 13 "NeighbourScoresModel" "disk" "[I", .constant RX7 62 (1000000000), .methodLink RX7 31 yX7_checked, .instanceMethod yX7_checked, .selects RX7 yX7_checked yX7_checked, .initialized RX7, .code yX7_checked cX7_checked 6 (some .int), .methodLink RX7 37 yX7_mix, .static yX7_mix, .code yX7_mix cX7_mix 3 (some .int), .constant RX7 35 (668265263), .constant RX7 36 (374761393)] ++ wsX70)
def wsX7_packed : List Cond := .code yX7_packed cX7_packed 5 (some .int) :: ([.fieldLink RX7 7 "NeighbourScoresModel" "rated" "[I"] ++ wsX70)
def wsX7_snapshot_r1 : List Cond := [Cond.fieldLink RX7 41 "NeighbourScoresModel" "dark" "Z", Cond.fieldLink RX7 13 "NeighbourScoresModel" "disk" "[I", Cond.fieldLink RX7 52 "NeighbourScoresModel" "current" "I", Cond.fieldLink RX7 55 "NeighbourScoresModel" "base" "I", Cond.methodLink RX7 63 yX7_good, Cond.instanceMethod yX7_good, Cond.selects RX7 yX7_good yX7_good, Cond.initialized RX7, Cond.code yX7_good cX7_good 2 (some .boolean), Cond.constant RX7 62 (1000000000), Cond.methodLink RX7 31 yX7_checked, Cond.instanceMethod yX7_checked, Cond.selects RX7 yX7_checked yX7_checked, Cond.code yX7_checked cX7_checked 6 (some .int), Cond.methodLink RX7 37 yX7_mix, Cond.static yX7_mix, Cond.code yX7_mix cX7_mix 3 (some .int), Cond.constant RX7 35 (668265263), Cond.constant RX7 36 (374761393), Cond.methodLink RX7 58 yX7_put, Cond.instanceMethod yX7_put, Cond.selects RX7 yX7_put yX7_put, Cond.code yX7_put cX7_put 3 none, Cond.fieldLink RX7 16 "NeighbourScoresModel" "left" "I"]
def wsX7_snapshot_r2 : List Cond := [Cond.methodLink RX7 66 yX7_packed, Cond.instanceMethod yX7_packed, Cond.selects RX7 yX7_packed yX7_packed, Cond.code yX7_packed cX7_packed 5 (some .int), Cond.fieldLink RX7 7 "NeighbourScoresModel" "rated" "[I"]
def wsX7_snapshot : List Cond := .code yX7_snapshot cX7_snapshot 8 (some .int) :: ((wsX7_snapshot_r1 ++ wsX7_snapshot_r2) ++ wsX70)
def wsX7_power : List Cond := .code yX7_power cX7_power 2 (some .boolean) :: ([.fieldLink RX7 16 "NeighbourScoresModel" "left" "I"] ++ wsX70)
def wsX7_redo : List Cond := .code yX7_redo cX7_redo 7 (some .boolean) :: ([.fieldLink RX7 52 "NeighbourScoresModel" "current" "I", .fieldLink RX7 13 "NeighbourScoresModel" "disk" "[I", .fieldLink RX7 7 "NeighbourScoresModel" "rated" "[I", .methodLink RX7 31 yX7_checked, .instanceMethod yX7_checked, .selects RX7 yX7_checked yX7_checked, .initialized RX7, .code yX7_checked cX7_checked 6 (some .int), .methodLink RX7 37 yX7_mix, .static yX7_mix, .code yX7_mix cX7_mix 3 (some .int), .constant RX7 35 (668265263), .constant RX7 36 (374761393), .methodLink RX7 45 yX7_noUser, .static yX7_noUser, .code yX7_noUser cX7_noUser 1 (some .boolean), .methodLink RX7 49 yX7_noItem, .static yX7_noItem, .code yX7_noItem cX7_noItem 1 (some .boolean)] ++ wsX70)
def wsX7_restart_r1 : List Cond := [Cond.fieldLink RX7 41 "NeighbourScoresModel" "dark" "Z", Cond.fieldLink RX7 16 "NeighbourScoresModel" "left" "I", Cond.fieldLink RX7 13 "NeighbourScoresModel" "disk" "[I", Cond.fieldLink RX7 7 "NeighbourScoresModel" "rated" "[I", Cond.fieldLink RX7 52 "NeighbourScoresModel" "current" "I", Cond.fieldLink RX7 55 "NeighbourScoresModel" "base" "I", Cond.methodLink RX7 63 yX7_good, Cond.instanceMethod yX7_good, Cond.selects RX7 yX7_good yX7_good, Cond.initialized RX7, Cond.code yX7_good cX7_good 2 (some .boolean), Cond.constant RX7 62 (1000000000), Cond.methodLink RX7 31 yX7_checked, Cond.instanceMethod yX7_checked, Cond.selects RX7 yX7_checked yX7_checked, Cond.code yX7_checked cX7_checked 6 (some .int), Cond.methodLink RX7 37 yX7_mix, Cond.static yX7_mix, Cond.code yX7_mix cX7_mix 3 (some .int), Cond.constant RX7 35 (668265263), Cond.constant RX7 36 (374761393), Cond.methodLink RX7 69 yX7_redo, Cond.instanceMethod yX7_redo, Cond.selects RX7 yX7_redo yX7_redo]
def wsX7_restart_r2 : List Cond := [Cond.code yX7_redo cX7_redo 7 (some .boolean), Cond.methodLink RX7 45 yX7_noUser, Cond.static yX7_noUser, Cond.code yX7_noUser cX7_noUser 1 (some .boolean), Cond.methodLink RX7 49 yX7_noItem, Cond.static yX7_noItem, Cond.code yX7_noItem cX7_noItem 1 (some .boolean)]
def wsX7_restart : List Cond := .code yX7_restart cX7_restart 8 (some .int) :: ((wsX7_restart_r1 ++ wsX7_restart_r2) ++ wsX70)
def wsX7_isOn : List Cond := .code yX7_isOn cX7_isOn 1 (some .boolean) :: ([.fieldLink RX7 41 "NeighbourScoresModel" "dark" "Z"] ++ wsX70)
def wsX7_word : List Cond := .code yX7_word cX7_word 2 (some .int) :: ([.fieldLink RX7 13 "NeighbourScoresModel" "disk" "[I"] ++ wsX70)
def wsX7_spoil : List Cond := .code yX7_spoil cX7_spoil 3 (some .boolean) :: ([.fieldLink RX7 13 "NeighbourScoresModel" "disk" "[I"] ++ wsX70)
def wsX7_dot : List Cond := .code yX7_dot cX7_dot 6 (some .long) :: ([.fieldLink RX7 7 "NeighbourScoresModel" "rated" "[I"] ++ wsX70)
def wsX7_weigh : List Cond := .code yX7_weigh cX7_weigh 5 none :: ([.fieldLink RX7 20 "NeighbourScoresModel" "weights" "[I", .constantLong RX7 77 (1048576), .methodLink RX7 73 yX7_dot, .instanceMethod yX7_dot, .selects RX7 yX7_dot yX7_dot, .initialized RX7, .code yX7_dot cX7_dot 6 (some .long), .fieldLink RX7 7 "NeighbourScoresModel" "rated" "[I"] ++ wsX70)
def wsX7_nearer : List Cond := .code yX7_nearer cX7_nearer 6 (some .boolean) :: ([.fieldLink RX7 20 "NeighbourScoresModel" "weights" "[I"] ++ wsX70)
def wsX7_entry : List Cond := .code yX7_entry cX7_entry 6 (some .int) :: ([.fieldLink RX7 20 "NeighbourScoresModel" "weights" "[I", .methodLink RX7 79 yX7_nearer, .instanceMethod yX7_nearer, .selects RX7 yX7_nearer yX7_nearer, .initialized RX7, .code yX7_nearer cX7_nearer 6 (some .boolean)] ++ wsX70)
def wsX7_scoreAll : List Cond := .code yX7_scoreAll cX7_scoreAll 4 none :: ([.fieldLink RX7 23 "NeighbourScoresModel" "scores" "[J", .fieldLink RX7 20 "NeighbourScoresModel" "weights" "[I", .fieldLink RX7 7 "NeighbourScoresModel" "rated" "[I", .methodLink RX7 83 yX7_weigh, .instanceMethod yX7_weigh, .selects RX7 yX7_weigh yX7_weigh, .initialized RX7, .code yX7_weigh cX7_weigh 5 none, .constantLong RX7 77 (1048576), .methodLink RX7 73 yX7_dot, .instanceMethod yX7_dot, .selects RX7 yX7_dot yX7_dot, .code yX7_dot cX7_dot 6 (some .long)] ++ wsX70)
def wsX7_rating : List Cond := .code yX7_rating cX7_rating 3 (some .int) :: ([.fieldLink RX7 41 "NeighbourScoresModel" "dark" "Z", .fieldLink RX7 7 "NeighbourScoresModel" "rated" "[I", .methodLink RX7 45 yX7_noUser, .static yX7_noUser, .initialized RX7, .code yX7_noUser cX7_noUser 1 (some .boolean), .methodLink RX7 49 yX7_noItem, .static yX7_noItem, .code yX7_noItem cX7_noItem 1 (some .boolean)] ++ wsX70)
def wsX7_weight : List Cond := .code yX7_weight cX7_weight 3 (some .int) :: ([.fieldLink RX7 41 "NeighbourScoresModel" "dark" "Z", .fieldLink RX7 20 "NeighbourScoresModel" "weights" "[I", .methodLink RX7 49 yX7_noItem, .static yX7_noItem, .initialized RX7, .code yX7_noItem cX7_noItem 1 (some .boolean), .methodLink RX7 83 yX7_weigh, .instanceMethod yX7_weigh, .selects RX7 yX7_weigh yX7_weigh, .code yX7_weigh cX7_weigh 5 none, .constantLong RX7 77 (1048576), .methodLink RX7 73 yX7_dot, .instanceMethod yX7_dot, .selects RX7 yX7_dot yX7_dot, .code yX7_dot cX7_dot 6 (some .long), .fieldLink RX7 7 "NeighbourScoresModel" "rated" "[I"] ++ wsX70)
def wsX7_neighbour : List Cond := .code yX7_neighbour cX7_neighbour 3 (some .int) :: ([.fieldLink RX7 41 "NeighbourScoresModel" "dark" "Z", .methodLink RX7 49 yX7_noItem, .static yX7_noItem, .initialized RX7, .code yX7_noItem cX7_noItem 1 (some .boolean), .methodLink RX7 83 yX7_weigh, .instanceMethod yX7_weigh, .selects RX7 yX7_weigh yX7_weigh, .code yX7_weigh cX7_weigh 5 none, .fieldLink RX7 20 "NeighbourScoresModel" "weights" "[I", .constantLong RX7 77 (1048576), .methodLink RX7 73 yX7_dot, .instanceMethod yX7_dot, .selects RX7 yX7_dot yX7_dot, .code yX7_dot cX7_dot 6 (some .long), .fieldLink RX7 7 "NeighbourScoresModel" "rated" "[I", .methodLink RX7 86 yX7_entry, .instanceMethod yX7_entry, .selects RX7 yX7_entry yX7_entry, .code yX7_entry cX7_entry 6 (some .int), .methodLink RX7 79 yX7_nearer, .instanceMethod yX7_nearer, .selects RX7 yX7_nearer yX7_nearer, .code yX7_nearer cX7_nearer 6 (some .boolean)] ++ wsX70)
def wsX7_score_r1 : List Cond := [Cond.fieldLink RX7 41 "NeighbourScoresModel" "dark" "Z", Cond.constantLong RX7 89 (-3), Cond.constantLong RX7 91 (-2), Cond.fieldLink RX7 23 "NeighbourScoresModel" "scores" "[J", Cond.methodLink RX7 45 yX7_noUser, Cond.static yX7_noUser, Cond.initialized RX7, Cond.code yX7_noUser cX7_noUser 1 (some .boolean), Cond.methodLink RX7 49 yX7_noItem, Cond.static yX7_noItem, Cond.code yX7_noItem cX7_noItem 1 (some .boolean), Cond.methodLink RX7 93 yX7_scoreAll, Cond.instanceMethod yX7_scoreAll, Cond.selects RX7 yX7_scoreAll yX7_scoreAll, Cond.code yX7_scoreAll cX7_scoreAll 4 none, Cond.fieldLink RX7 20 "NeighbourScoresModel" "weights" "[I", Cond.fieldLink RX7 7 "NeighbourScoresModel" "rated" "[I", Cond.methodLink RX7 83 yX7_weigh, Cond.instanceMethod yX7_weigh, Cond.selects RX7 yX7_weigh yX7_weigh, Cond.code yX7_weigh cX7_weigh 5 none, Cond.constantLong RX7 77 (1048576), Cond.methodLink RX7 73 yX7_dot, Cond.instanceMethod yX7_dot]
def wsX7_score_r2 : List Cond := [Cond.selects RX7 yX7_dot yX7_dot, Cond.code yX7_dot cX7_dot 6 (some .long)]
def wsX7_score : List Cond := .code yX7_score cX7_score 3 (some .long) :: ((wsX7_score_r1 ++ wsX7_score_r2) ++ wsX70)
def wsX7_offered : List Cond := .code yX7_offered cX7_offered 3 (some .boolean) :: ([.fieldLink RX7 7 "NeighbourScoresModel" "rated" "[I", .fieldLink RX7 23 "NeighbourScoresModel" "scores" "[J"] ++ wsX70)
def wsX7_best_r1 : List Cond := [Cond.fieldLink RX7 41 "NeighbourScoresModel" "dark" "Z", Cond.fieldLink RX7 23 "NeighbourScoresModel" "scores" "[J", Cond.methodLink RX7 45 yX7_noUser, Cond.static yX7_noUser, Cond.initialized RX7, Cond.code yX7_noUser cX7_noUser 1 (some .boolean), Cond.methodLink RX7 93 yX7_scoreAll, Cond.instanceMethod yX7_scoreAll, Cond.selects RX7 yX7_scoreAll yX7_scoreAll, Cond.code yX7_scoreAll cX7_scoreAll 4 none, Cond.fieldLink RX7 20 "NeighbourScoresModel" "weights" "[I", Cond.fieldLink RX7 7 "NeighbourScoresModel" "rated" "[I", Cond.methodLink RX7 83 yX7_weigh, Cond.instanceMethod yX7_weigh, Cond.selects RX7 yX7_weigh yX7_weigh, Cond.code yX7_weigh cX7_weigh 5 none, Cond.constantLong RX7 77 (1048576), Cond.methodLink RX7 73 yX7_dot, Cond.instanceMethod yX7_dot, Cond.selects RX7 yX7_dot yX7_dot, Cond.code yX7_dot cX7_dot 6 (some .long), Cond.methodLink RX7 97 yX7_offered, Cond.instanceMethod yX7_offered, Cond.selects RX7 yX7_offered yX7_offered]
def wsX7_best_r2 : List Cond := [Cond.code yX7_offered cX7_offered 3 (some .boolean)]
def wsX7_best : List Cond := .code yX7_best cX7_best 7 (some .int) :: ((wsX7_best_r1 ++ wsX7_best_r2) ++ wsX70)
def wsX7_above : List Cond := .code yX7_above cX7_above 6 (some .int) :: ([.fieldLink RX7 27 "NeighbourScoresModel" "met" "[Z", .fieldLink RX7 7 "NeighbourScoresModel" "rated" "[I", .fieldLink RX7 23 "NeighbourScoresModel" "scores" "[J"] ++ wsX70)
def wsX7_reads_r1 : List Cond := [Cond.fieldLink RX7 41 "NeighbourScoresModel" "dark" "Z", Cond.fieldLink RX7 27 "NeighbourScoresModel" "met" "[Z", Cond.fieldLink RX7 7 "NeighbourScoresModel" "rated" "[I", Cond.fieldLink RX7 20 "NeighbourScoresModel" "weights" "[I", Cond.methodLink RX7 45 yX7_noUser, Cond.static yX7_noUser, Cond.initialized RX7, Cond.code yX7_noUser cX7_noUser 1 (some .boolean), Cond.methodLink RX7 93 yX7_scoreAll, Cond.instanceMethod yX7_scoreAll, Cond.selects RX7 yX7_scoreAll yX7_scoreAll, Cond.code yX7_scoreAll cX7_scoreAll 4 none, Cond.fieldLink RX7 23 "NeighbourScoresModel" "scores" "[J", Cond.methodLink RX7 83 yX7_weigh, Cond.instanceMethod yX7_weigh, Cond.selects RX7 yX7_weigh yX7_weigh, Cond.code yX7_weigh cX7_weigh 5 none, Cond.constantLong RX7 77 (1048576), Cond.methodLink RX7 73 yX7_dot, Cond.instanceMethod yX7_dot, Cond.selects RX7 yX7_dot yX7_dot, Cond.code yX7_dot cX7_dot 6 (some .long), Cond.methodLink RX7 86 yX7_entry, Cond.instanceMethod yX7_entry]
def wsX7_reads_r2 : List Cond := [Cond.selects RX7 yX7_entry yX7_entry, Cond.code yX7_entry cX7_entry 6 (some .int), Cond.methodLink RX7 79 yX7_nearer, Cond.instanceMethod yX7_nearer, Cond.selects RX7 yX7_nearer yX7_nearer, Cond.code yX7_nearer cX7_nearer 6 (some .boolean), Cond.methodLink RX7 101 yX7_above, Cond.instanceMethod yX7_above, Cond.selects RX7 yX7_above yX7_above, Cond.code yX7_above cX7_above 6 (some .int)]
def wsX7_reads : List Cond := .code yX7_reads cX7_reads 12 (some .int) :: ((wsX7_reads_r1 ++ wsX7_reads_r2) ++ wsX70)
def wsX7_share : List Cond := .code yX7_share cX7_share 4 (some .long) :: ([.fieldLink RX7 41 "NeighbourScoresModel" "dark" "Z", .constantLong RX7 89 (-3), .constantLong RX7 91 (-2), .fieldLink RX7 20 "NeighbourScoresModel" "weights" "[I", .fieldLink RX7 7 "NeighbourScoresModel" "rated" "[I", .methodLink RX7 45 yX7_noUser, .static yX7_noUser, .initialized RX7, .code yX7_noUser cX7_noUser 1 (some .boolean), .methodLink RX7 49 yX7_noItem, .static yX7_noItem, .code yX7_noItem cX7_noItem 1 (some .boolean), .methodLink RX7 83 yX7_weigh, .instanceMethod yX7_weigh, .selects RX7 yX7_weigh yX7_weigh, .code yX7_weigh cX7_weigh 5 none, .constantLong RX7 77 (1048576), .methodLink RX7 73 yX7_dot, .instanceMethod yX7_dot, .selects RX7 yX7_dot yX7_dot, .code yX7_dot cX7_dot 6 (some .long)] ++ wsX70)
def wsX7_number : List Cond := .code yX7_number cX7_number 4 (some .int) :: ([.fieldLink RX7 41 "NeighbourScoresModel" "dark" "Z", .fieldLink RX7 7 "NeighbourScoresModel" "rated" "[I", .fieldLink RX7 52 "NeighbourScoresModel" "current" "I", .fieldLink RX7 55 "NeighbourScoresModel" "base" "I"] ++ wsX70)
def wsL_law_r1 : List Cond := [Cond.classLink RL 7 RX6, Cond.instantiable RX6 8, Cond.initialized RX6, Cond.classLink RL 10 RX7, Cond.instantiable RX7 9, Cond.initialized RX7, Cond.methodLink RL 9 yX6_init, Cond.instanceMethod yX6_init, Cond.code yX6_init cX6_init 1 none, Cond.methodLink RX6 1 objectInit, Cond.instanceMethod objectInit, Cond.code objectInit ⟨#[0xb1]⟩ 1 none, Cond.classLink RX6 7 RX0, Cond.instantiable RX0 3, Cond.initialized RX0, Cond.fieldLink RX6 10 "NeighbourScores" "disk" "LNeighbourScores$Disk;", Cond.classLink RX6 16 RX5, Cond.instantiable RX5 1, Cond.initialized RX5, Cond.fieldLink RX6 19 "NeighbourScores" "snapshots" "LNeighbourScores$Snapshots;", Cond.classLink RX6 23 RX4, Cond.instantiable RX4 1, Cond.initialized RX4, Cond.fieldLink RX6 26 "NeighbourScores" "records" "LNeighbourScores$Records;"]
def wsL_law_r2 : List Cond := [Cond.classLink RX6 30 RX2, Cond.instantiable RX2 2, Cond.initialized RX2, Cond.fieldLink RX6 33 "NeighbourScores" "ratings" "LNeighbourScores$Ratings;", Cond.classLink RX6 37 RX1, Cond.instantiable RX1 3, Cond.initialized RX1, Cond.fieldLink RX6 40 "NeighbourScores" "ranking" "LNeighbourScores$Ranking;", Cond.classLink RX6 44 RX3, Cond.instantiable RX3 3, Cond.initialized RX3, Cond.fieldLink RX6 47 "NeighbourScores" "reading" "LNeighbourScores$Reading;", Cond.fieldLink RX6 51 "NeighbourScores" "systemNumber" "I", Cond.fieldLink RX6 55 "NeighbourScores" "baseNumber" "I", Cond.methodLink RX6 9 yX0_init, Cond.instanceMethod yX0_init, Cond.code yX0_init cX0_init 2 none, Cond.methodLink RX0 1 objectInit, Cond.arrayClass .int, Cond.fieldLink RX0 9 "NeighbourScores$Disk" "words" "[I", Cond.fieldLink RX0 13 "NeighbourScores$Disk" "powered" "Z", Cond.fieldLink RX0 17 "NeighbourScores$Disk" "wordsToFailure" "I", Cond.methodLink RX0 23 yX0_checkOf, Cond.static yX0_checkOf]
def wsL_law_r3 : List Cond := [Cond.code yX0_checkOf cX0_checkOf 6 (some .int), Cond.methodLink RX0 39 yX0_mix, Cond.static yX0_mix, Cond.code yX0_mix cX0_mix 3 (some .int), Cond.constant RX0 46 (668265263), Cond.constant RX0 47 (374761393), Cond.instanceMethod yX5_init, Cond.code yX5_init cX5_init 1 none, Cond.methodLink RX5 3 objectInit, Cond.fieldLink RX5 11 "NeighbourScores$Snapshots" "row" "[I", Cond.instanceMethod yX4_init, Cond.code yX4_init cX4_init 1 none, Cond.methodLink RX4 5 objectInit, Cond.fieldLink RX4 13 "NeighbourScores$Records" "row" "[I", Cond.instanceMethod yX2_init, Cond.code yX2_init cX2_init 1 none, Cond.methodLink RX2 3 objectInit, Cond.classLink RX2 9 "[[I", Cond.fieldLink RX2 11 "NeighbourScores$Ratings" "table" "[[I", Cond.fieldLink RX2 16 "NeighbourScores$Ratings" "dots" "[[I", Cond.instanceMethod yX1_init, Cond.code yX1_init cX1_init 1 none, Cond.methodLink RX1 3 objectInit, Cond.fieldLink RX1 9 "NeighbourScores$Ranking" "items" "[I"]
def wsL_law_r4 : List Cond := [Cond.arrayClass .long, Cond.fieldLink RX1 15 "NeighbourScores$Ranking" "values" "[J", Cond.fieldLink RX1 19 "NeighbourScores$Ranking" "size" "I", Cond.methodLink RX6 46 yX3_init, Cond.instanceMethod yX3_init, Cond.code yX3_init cX3_init 2 none, Cond.methodLink RX3 3 objectInit, Cond.classLink RX3 9 RX1, Cond.fieldLink RX3 11 "NeighbourScores$Reading" "lists" "[LNeighbourScores$Ranking;", Cond.fieldLink RX3 17 "NeighbourScores$Reading" "found" "[J", Cond.fieldLink RX3 21 "NeighbourScores$Reading" "entries" "I", Cond.methodLink RL 12 yX7_init, Cond.instanceMethod yX7_init, Cond.code yX7_init cX7_init 1 none, Cond.methodLink RX7 1 objectInit, Cond.fieldLink RX7 7 "NeighbourScoresModel" "rated" "[I", Cond.fieldLink RX7 13 "NeighbourScoresModel" "disk" "[I", Cond.fieldLink RX7 16 "NeighbourScoresModel" "left" "I", Cond.fieldLink RX7 20 "NeighbourScoresModel" "weights" "[I", Cond.fieldLink RX7 23 "NeighbourScoresModel" "scores" "[J", Cond.arrayClass .boolean, Cond.fieldLink RX7 27 "NeighbourScoresModel" "met" "[Z", Cond.methodLink RX7 31 yX7_checked, Cond.instanceMethod yX7_checked]
def wsL_law_r5 : List Cond := [Cond.selects RX7 yX7_checked yX7_checked, Cond.code yX7_checked cX7_checked 6 (some .int), Cond.methodLink RX7 37 yX7_mix, Cond.static yX7_mix, Cond.code yX7_mix cX7_mix 3 (some .int), Cond.constant RX7 35 (668265263), Cond.constant RX7 36 (374761393), Cond.methodLink RL 13 yX6_rate, Cond.instanceMethod yX6_rate, Cond.selects RX6 yX6_rate yX6_rate, Cond.code yX6_rate cX6_rate 5 (some .int), Cond.methodLink RX6 58 yX0_isPowered, Cond.instanceMethod yX0_isPowered, Cond.selects RX0 yX0_isPowered yX0_isPowered, Cond.code yX0_isPowered cX0_isPowered 1 (some .boolean), Cond.methodLink RX6 62 yX6_isUser, Cond.static yX6_isUser, Cond.code yX6_isUser cX6_isUser 1 (some .boolean), Cond.methodLink RX6 66 yX6_isItem, Cond.static yX6_isItem, Cond.code yX6_isItem cX6_isItem 1 (some .boolean), Cond.methodLink RX6 69 yX4_writeRecord, Cond.instanceMethod yX4_writeRecord, Cond.selects RX4 yX4_writeRecord yX4_writeRecord]
def wsL_law_r6 : List Cond := [Cond.code yX4_writeRecord cX4_writeRecord 6 (some .boolean), Cond.methodLink RX4 17 yX0_checkOf, Cond.methodLink RX4 23 yX4_startOf, Cond.static yX4_startOf, Cond.code yX4_startOf cX4_startOf 1 (some .int), Cond.methodLink RX4 63 yJ9_floorMod_7cf53, Cond.static yJ9_floorMod_7cf53, Cond.initialized RJ9, Cond.code yJ9_floorMod_7cf53 cJ9_floorMod_7cf53 3 (some .int), Cond.methodLink RX4 27 yX0_writeRow, Cond.instanceMethod yX0_writeRow, Cond.selects RX0 yX0_writeRow yX0_writeRow, Cond.code yX0_writeRow cX0_writeRow 4 (some .boolean), Cond.methodLink RX0 31 yX0_writeWord, Cond.instanceMethod yX0_writeWord, Cond.selects RX0 yX0_writeWord yX0_writeWord, Cond.code yX0_writeWord cX0_writeWord 3 (some .boolean), Cond.methodLink RX0 43 yX0_put, Cond.instanceMethod yX0_put, Cond.selects RX0 yX0_put yX0_put, Cond.code yX0_put cX0_put 3 (some .boolean), Cond.methodLink RX0 27 yX0_has, Cond.instanceMethod yX0_has, Cond.selects RX0 yX0_has yX0_has]
def wsL_law_r7 : List Cond := [Cond.code yX0_has cX0_has 2 (some .boolean), Cond.methodLink RX6 73 yX2_at, Cond.instanceMethod yX2_at, Cond.selects RX2 yX2_at yX2_at, Cond.code yX2_at cX2_at 3 (some .int), Cond.methodLink RX6 77 yX2_set, Cond.instanceMethod yX2_set, Cond.selects RX2 yX2_set yX2_set, Cond.code yX2_set cX2_set 7 none, Cond.methodLink RL 17 yX7_rate, Cond.instanceMethod yX7_rate, Cond.selects RX7 yX7_rate yX7_rate, Cond.code yX7_rate cX7_rate 8 (some .int), Cond.fieldLink RX7 41 "NeighbourScoresModel" "dark" "Z", Cond.fieldLink RX7 52 "NeighbourScoresModel" "current" "I", Cond.fieldLink RX7 55 "NeighbourScoresModel" "base" "I", Cond.methodLink RX7 45 yX7_noUser, Cond.static yX7_noUser, Cond.code yX7_noUser cX7_noUser 1 (some .boolean), Cond.methodLink RX7 49 yX7_noItem, Cond.static yX7_noItem, Cond.code yX7_noItem cX7_noItem 1 (some .boolean), Cond.methodLink RX7 58 yX7_put, Cond.instanceMethod yX7_put]
def wsL_law_r8 : List Cond := [Cond.selects RX7 yX7_put yX7_put, Cond.code yX7_put cX7_put 3 none, Cond.methodLink RL 18 yX6_snapshot, Cond.instanceMethod yX6_snapshot, Cond.selects RX6 yX6_snapshot yX6_snapshot, Cond.code yX6_snapshot cX6_snapshot 1 (some .int), Cond.methodLink RX6 81 yX5_writeOverOlder, Cond.instanceMethod yX5_writeOverOlder, Cond.selects RX5 yX5_writeOverOlder yX5_writeOverOlder, Cond.code yX5_writeOverOlder cX5_writeOverOlder 6 (some .boolean), Cond.methodLink RX5 15 yX5_placeOf, Cond.static yX5_placeOf, Cond.code yX5_placeOf cX5_placeOf 2 (some .int), Cond.methodLink RX5 19 yX2_packed, Cond.instanceMethod yX2_packed, Cond.selects RX2 yX2_packed yX2_packed, Cond.code yX2_packed cX2_packed 5 (some .int), Cond.methodLink RX5 24 yX0_checkOf, Cond.methodLink RX5 30 yX5_newest, Cond.static yX5_newest, Cond.code yX5_newest cX5_newest 3 (some .int), Cond.methodLink RX5 52 yX5_isGood, Cond.static yX5_isGood, Cond.code yX5_isGood cX5_isGood 4 (some .boolean)]
def wsL_law_r9 : List Cond := [Cond.constant RX5 56 (1000000000), Cond.methodLink RX5 34 yX5_startOf, Cond.static yX5_startOf, Cond.code yX5_startOf cX5_startOf 1 (some .int), Cond.methodLink RX5 45 yX0_at, Cond.instanceMethod yX0_at, Cond.selects RX0 yX0_at yX0_at, Cond.code yX0_at cX0_at 2 (some .int), Cond.methodLink RX5 57 yX0_isCheckRight, Cond.instanceMethod yX0_isCheckRight, Cond.selects RX0 yX0_isCheckRight yX0_isCheckRight, Cond.code yX0_isCheckRight cX0_isCheckRight 4 (some .boolean), Cond.methodLink RX0 35 yX0_at, Cond.methodLink RX5 38 yX0_writeRow, Cond.methodLink RL 22 yX7_snapshot, Cond.instanceMethod yX7_snapshot, Cond.selects RX7 yX7_snapshot yX7_snapshot, Cond.code yX7_snapshot cX7_snapshot 8 (some .int), Cond.methodLink RX7 63 yX7_good, Cond.instanceMethod yX7_good, Cond.selects RX7 yX7_good yX7_good, Cond.code yX7_good cX7_good 2 (some .boolean), Cond.constant RX7 62 (1000000000), Cond.methodLink RX7 66 yX7_packed]
def wsL_law_r10 : List Cond := [Cond.instanceMethod yX7_packed, Cond.selects RX7 yX7_packed yX7_packed, Cond.code yX7_packed cX7_packed 5 (some .int), Cond.methodLink RL 23 yX6_power, Cond.instanceMethod yX6_power, Cond.selects RX6 yX6_power yX6_power, Cond.code yX6_power cX6_power 2 (some .boolean), Cond.methodLink RX6 85 yX0_failAfter, Cond.instanceMethod yX0_failAfter, Cond.selects RX0 yX0_failAfter yX0_failAfter, Cond.code yX0_failAfter cX0_failAfter 2 none, Cond.methodLink RL 27 yX7_power, Cond.instanceMethod yX7_power, Cond.selects RX7 yX7_power yX7_power, Cond.code yX7_power cX7_power 2 (some .boolean), Cond.methodLink RL 28 yX6_restart, Cond.instanceMethod yX6_restart, Cond.selects RX6 yX6_restart yX6_restart, Cond.code yX6_restart cX6_restart 2 (some .int), Cond.methodLink RX6 89 yX0_switchOn, Cond.instanceMethod yX0_switchOn, Cond.selects RX0 yX0_switchOn yX0_switchOn, Cond.code yX0_switchOn cX0_switchOn 1 none, Cond.methodLink RX6 92 yX5_loadNewest]
def wsL_law_r11 : List Cond := [Cond.static yX5_loadNewest, Cond.code yX5_loadNewest cX5_loadNewest 6 (some .int), Cond.methodLink RX5 42 yX2_clear, Cond.instanceMethod yX2_clear, Cond.selects RX2 yX2_clear yX2_clear, Cond.code yX2_clear cX2_clear 3 none, Cond.methodLink RX2 19 yX2_set, Cond.methodLink RX5 48 yX2_unpack, Cond.instanceMethod yX2_unpack, Cond.selects RX2 yX2_unpack yX2_unpack, Cond.code yX2_unpack cX2_unpack 6 none, Cond.methodLink RX6 96 yX4_holds, Cond.static yX4_holds, Cond.code yX4_holds cX4_holds 3 (some .boolean), Cond.methodLink RX4 31 yX0_at, Cond.methodLink RX4 34 yX0_isCheckRight, Cond.methodLink RX4 38 yX4_namesRating, Cond.static yX4_namesRating, Cond.code yX4_namesRating cX4_namesRating 1 (some .boolean), Cond.methodLink RX4 42 yX4_userIn, Cond.static yX4_userIn, Cond.code yX4_userIn cX4_userIn 1 (some .int), Cond.methodLink RX4 45 yX4_itemIn, Cond.static yX4_itemIn]
def wsL_law_r12 : List Cond := [Cond.code yX4_itemIn cX4_itemIn 1 (some .int), Cond.methodLink RX4 48 yX4_ratingIn, Cond.static yX4_ratingIn, Cond.code yX4_ratingIn cX4_ratingIn 1 (some .int), Cond.methodLink RX6 100 yX4_repeat, Cond.static yX4_repeat, Cond.code yX4_repeat cX4_repeat 4 none, Cond.methodLink RX4 51 yX2_set, Cond.methodLink RL 31 yX7_restart, Cond.instanceMethod yX7_restart, Cond.selects RX7 yX7_restart yX7_restart, Cond.code yX7_restart cX7_restart 8 (some .int), Cond.methodLink RX7 69 yX7_redo, Cond.instanceMethod yX7_redo, Cond.selects RX7 yX7_redo yX7_redo, Cond.code yX7_redo cX7_redo 7 (some .boolean), Cond.methodLink RL 32 yX6_isOn, Cond.instanceMethod yX6_isOn, Cond.selects RX6 yX6_isOn yX6_isOn, Cond.code yX6_isOn cX6_isOn 1 (some .boolean), Cond.methodLink RL 36 yX7_isOn, Cond.instanceMethod yX7_isOn, Cond.selects RX7 yX7_isOn yX7_isOn, Cond.code yX7_isOn cX7_isOn 1 (some .boolean)]
def wsL_law_r13 : List Cond := [Cond.methodLink RL 37 yX6_word, Cond.instanceMethod yX6_word, Cond.selects RX6 yX6_word yX6_word, Cond.code yX6_word cX6_word 2 (some .int), Cond.methodLink RX6 104 yX0_at, Cond.methodLink RL 41 yX7_word, Cond.instanceMethod yX7_word, Cond.selects RX7 yX7_word yX7_word, Cond.code yX7_word cX7_word 2 (some .int), Cond.methodLink RL 42 yX6_spoil, Cond.instanceMethod yX6_spoil, Cond.selects RX6 yX6_spoil yX6_spoil, Cond.code yX6_spoil cX6_spoil 3 (some .boolean), Cond.methodLink RX6 107 yX0_put, Cond.methodLink RL 46 yX7_spoil, Cond.instanceMethod yX7_spoil, Cond.selects RX7 yX7_spoil yX7_spoil, Cond.code yX7_spoil cX7_spoil 3 (some .boolean), Cond.methodLink RL 47 yX6_rating, Cond.instanceMethod yX6_rating, Cond.selects RX6 yX6_rating yX6_rating, Cond.code yX6_rating cX6_rating 3 (some .int), Cond.methodLink RL 51 yX7_rating, Cond.instanceMethod yX7_rating]
def wsL_law_r14 : List Cond := [Cond.selects RX7 yX7_rating yX7_rating, Cond.code yX7_rating cX7_rating 3 (some .int), Cond.methodLink RL 52 yX6_weight, Cond.instanceMethod yX6_weight, Cond.selects RX6 yX6_weight yX6_weight, Cond.code yX6_weight cX6_weight 3 (some .int), Cond.methodLink RX6 111 yX2_weightOf, Cond.instanceMethod yX2_weightOf, Cond.selects RX2 yX2_weightOf yX2_weightOf, Cond.code yX2_weightOf cX2_weightOf 7 (some .int), Cond.constantLong RX2 23 (1048576), Cond.methodLink RL 55 yX7_weight, Cond.instanceMethod yX7_weight, Cond.selects RX7 yX7_weight yX7_weight, Cond.code yX7_weight cX7_weight 3 (some .int), Cond.methodLink RX7 83 yX7_weigh, Cond.instanceMethod yX7_weigh, Cond.selects RX7 yX7_weigh yX7_weigh, Cond.code yX7_weigh cX7_weigh 5 none, Cond.constantLong RX7 77 (1048576), Cond.methodLink RX7 73 yX7_dot, Cond.instanceMethod yX7_dot, Cond.selects RX7 yX7_dot yX7_dot, Cond.code yX7_dot cX7_dot 6 (some .long)]
def wsL_law_r15 : List Cond := [Cond.methodLink RL 56 yX6_neighbour, Cond.instanceMethod yX6_neighbour, Cond.selects RX6 yX6_neighbour yX6_neighbour, Cond.code yX6_neighbour cX6_neighbour 3 (some .int), Cond.methodLink RX6 114 yX1_rankNeighbours, Cond.instanceMethod yX1_rankNeighbours, Cond.selects RX1 yX1_rankNeighbours yX1_rankNeighbours, Cond.code yX1_rankNeighbours cX1_rankNeighbours 4 none, Cond.methodLink RX1 23 yX1_clear, Cond.instanceMethod yX1_clear, Cond.selects RX1 yX1_clear yX1_clear, Cond.code yX1_clear cX1_clear 1 none, Cond.methodLink RX1 26 yX2_weightOf, Cond.methodLink RX1 32 yX1_add, Cond.instanceMethod yX1_add, Cond.selects RX1 yX1_add yX1_add, Cond.code yX1_add cX1_add 5 none, Cond.methodLink RX6 118 yX1_itemAt, Cond.instanceMethod yX1_itemAt, Cond.selects RX1 yX1_itemAt yX1_itemAt, Cond.code yX1_itemAt cX1_itemAt 2 (some .int), Cond.methodLink RX1 43 yX1_has, Cond.instanceMethod yX1_has, Cond.selects RX1 yX1_has yX1_has]
def wsL_law_r16 : List Cond := [Cond.code yX1_has cX1_has 2 (some .boolean), Cond.methodLink RL 59 yX7_neighbour, Cond.instanceMethod yX7_neighbour, Cond.selects RX7 yX7_neighbour yX7_neighbour, Cond.code yX7_neighbour cX7_neighbour 3 (some .int), Cond.methodLink RX7 86 yX7_entry, Cond.instanceMethod yX7_entry, Cond.selects RX7 yX7_entry yX7_entry, Cond.code yX7_entry cX7_entry 6 (some .int), Cond.methodLink RX7 79 yX7_nearer, Cond.instanceMethod yX7_nearer, Cond.selects RX7 yX7_nearer yX7_nearer, Cond.code yX7_nearer cX7_nearer 6 (some .boolean), Cond.methodLink RL 60 yX6_score, Cond.instanceMethod yX6_score, Cond.selects RX6 yX6_score yX6_score, Cond.code yX6_score cX6_score 3 (some .long), Cond.constantLong RX6 121 (-3), Cond.constantLong RX6 123 (-2), Cond.methodLink RX6 125 yX2_scoreOf, Cond.instanceMethod yX2_scoreOf, Cond.selects RX2 yX2_scoreOf yX2_scoreOf, Cond.code yX2_scoreOf cX2_scoreOf 6 (some .long), Cond.methodLink RX2 29 yX2_shareOf]
def wsL_law_r17 : List Cond := [Cond.instanceMethod yX2_shareOf, Cond.selects RX2 yX2_shareOf yX2_shareOf, Cond.code yX2_shareOf cX2_shareOf 4 (some .long), Cond.methodLink RX2 25 yX2_weightOf, Cond.methodLink RL 64 yX7_score, Cond.instanceMethod yX7_score, Cond.selects RX7 yX7_score yX7_score, Cond.code yX7_score cX7_score 3 (some .long), Cond.constantLong RX7 89 (-3), Cond.constantLong RX7 91 (-2), Cond.methodLink RX7 93 yX7_scoreAll, Cond.instanceMethod yX7_scoreAll, Cond.selects RX7 yX7_scoreAll yX7_scoreAll, Cond.code yX7_scoreAll cX7_scoreAll 4 none, Cond.methodLink RL 65 yX6_best, Cond.instanceMethod yX6_best, Cond.selects RX6 yX6_best yX6_best, Cond.code yX6_best cX6_best 3 (some .int), Cond.methodLink RX6 129 yX1_rankBest, Cond.instanceMethod yX1_rankBest, Cond.selects RX1 yX1_rankBest yX1_rankBest, Cond.code yX1_rankBest cX1_rankBest 4 none, Cond.methodLink RX1 36 yX2_at, Cond.methodLink RX1 39 yX2_scoreOf]
def wsL_law_r18 : List Cond := [Cond.methodLink RL 68 yX7_best, Cond.instanceMethod yX7_best, Cond.selects RX7 yX7_best yX7_best, Cond.code yX7_best cX7_best 7 (some .int), Cond.methodLink RX7 97 yX7_offered, Cond.instanceMethod yX7_offered, Cond.selects RX7 yX7_offered yX7_offered, Cond.code yX7_offered cX7_offered 3 (some .boolean), Cond.methodLink RL 69 yX6_reads, Cond.instanceMethod yX6_reads, Cond.selects RX6 yX6_reads yX6_reads, Cond.code yX6_reads cX6_reads 3 (some .int), Cond.methodLink RX6 132 yX3_countEntries, Cond.instanceMethod yX3_countEntries, Cond.selects RX3 yX3_countEntries yX3_countEntries, Cond.code yX3_countEntries cX3_countEntries 7 (some .int), Cond.methodLink RX3 26 yX3_begin, Cond.instanceMethod yX3_begin, Cond.selects RX3 yX3_begin yX3_begin, Cond.code yX3_begin cX3_begin 4 none, Cond.methodLink RX3 42 yX1_clear, Cond.methodLink RX3 45 yX2_at, Cond.methodLink RX3 51 yX1_rankNeighbours, Cond.methodLink RX3 30 yX3_isEntryLeft]
def wsL_law_r19 : List Cond := [Cond.instanceMethod yX3_isEntryLeft, Cond.selects RX3 yX3_isEntryLeft yX3_isEntryLeft, Cond.code yX3_isEntryLeft cX3_isEntryLeft 3 (some .boolean), Cond.methodLink RX3 54 yX1_has, Cond.methodLink RX3 34 yX3_readRound, Cond.instanceMethod yX3_readRound, Cond.selects RX3 yX3_readRound yX3_readRound, Cond.code yX3_readRound cX3_readRound 7 (some .long), Cond.methodLink RX3 57 yX1_valueAt, Cond.instanceMethod yX1_valueAt, Cond.selects RX1 yX1_valueAt yX1_valueAt, Cond.code yX1_valueAt cX1_valueAt 2 (some .long), Cond.methodLink RX3 61 yX1_itemAt, Cond.methodLink RX3 65 yX3_find, Cond.instanceMethod yX3_find, Cond.selects RX3 yX3_find yX3_find, Cond.code yX3_find cX3_find 4 none, Cond.methodLink RX3 69 yX2_scoreOf, Cond.methodLink RX3 38 yX3_countFoundAbove, Cond.instanceMethod yX3_countFoundAbove, Cond.selects RX3 yX3_countFoundAbove yX3_countFoundAbove, Cond.code yX3_countFoundAbove cX3_countFoundAbove 5 (some .int), Cond.methodLink RL 72 yX7_reads, Cond.instanceMethod yX7_reads]
def wsL_law_r20 : List Cond := [Cond.selects RX7 yX7_reads yX7_reads, Cond.code yX7_reads cX7_reads 12 (some .int), Cond.methodLink RX7 101 yX7_above, Cond.instanceMethod yX7_above, Cond.selects RX7 yX7_above yX7_above, Cond.code yX7_above cX7_above 6 (some .int), Cond.methodLink RL 73 yX6_share, Cond.instanceMethod yX6_share, Cond.selects RX6 yX6_share yX6_share, Cond.code yX6_share cX6_share 4 (some .long), Cond.methodLink RX6 136 yX2_shareOf, Cond.methodLink RL 77 yX7_share, Cond.instanceMethod yX7_share, Cond.selects RX7 yX7_share yX7_share, Cond.code yX7_share cX7_share 4 (some .long), Cond.methodLink RL 78 yX6_number, Cond.instanceMethod yX6_number, Cond.selects RX6 yX6_number yX6_number, Cond.code yX6_number cX6_number 2 (some .int), Cond.methodLink RX6 140 yX2_countRated, Cond.instanceMethod yX2_countRated, Cond.selects RX2 yX2_countRated yX2_countRated, Cond.code yX2_countRated cX2_countRated 4 (some .int), Cond.methodLink RL 81 yX7_number]
def wsL_law_r21 : List Cond := [Cond.instanceMethod yX7_number, Cond.selects RX7 yX7_number yX7_number, Cond.code yX7_number cX7_number 4 (some .int)]
def wsL_law : List Cond := (wsL_law_r1 ++ (wsL_law_r2 ++ (wsL_law_r3 ++ (wsL_law_r4 ++ (wsL_law_r5 ++ (wsL_law_r6 ++ (wsL_law_r7 ++ (wsL_law_r8 ++ (wsL_law_r9 ++ (wsL_law_r10 ++ (wsL_law_r11 ++ (wsL_law_r12 ++ (wsL_law_r13 ++ (wsL_law_r14 ++ (wsL_law_r15 ++ (wsL_law_r16 ++ (wsL_law_r17 ++ (wsL_law_r18 ++ (wsL_law_r19 ++ (wsL_law_r20 ++ wsL_law_r21)))))))))))))))))))) ++ wsX60 ++ wsX70 ++ wsX00 ++ wsX50 ++ wsX40 ++ wsX20 ++ wsX10 ++ wsX30 ++ ([] : List Cond)
set_option maxRecDepth 20000 in
theorem ggX0_init_X0_checkOf : GoodIn wsX0_init wsX0_checkOf := goodIn_r _ [11, 12, 13, 10, 14, 15, 16] (by decide +kernel) (by decide +kernel)
set_option maxRecDepth 20000 in
theorem gX0_init_X0_checkOf : GoodIn wsX0_init (va_wsS RX0 23 yX0_checkOf wsX0_checkOf) := goodIn_app (goodIn_of _ (by decide +kernel)) ggX0_init_X0_checkOf
theorem dX0_init_0 : decode cX0_init 0 = .ok (.aload_n 0, 1) := by decide +kernel
theorem dX0_init_1 : decode cX0_init 1 = .ok (.invokespecial 1, 3) := by decide +kernel
theorem dX0_init_4 : decode cX0_init 4 = .ok (.aload_n 0, 1) := by decide +kernel
theorem dX0_init_5 : decode cX0_init 5 = .ok (.sipush 172, 3) := by decide +kernel
theorem dX0_init_8 : decode cX0_init 8 = .ok (.newarray .int, 2) := by decide +kernel
theorem dX0_init_10 : decode cX0_init 10 = .ok (.putfield 9, 3) := by decide +kernel
theorem dX0_init_13 : decode cX0_init 13 = .ok (.aload_n 0, 1) := by decide +kernel
theorem dX0_init_14 : decode cX0_init 14 = .ok (.iconst 1, 1) := by decide +kernel
theorem dX0_init_15 : decode cX0_init 15 = .ok (.putfield 13, 3) := by decide +kernel
theorem dX0_init_18 : decode cX0_init 18 = .ok (.aload_n 0, 1) := by decide +kernel
theorem dX0_init_19 : decode cX0_init 19 = .ok (.iconst (-1), 1) := by decide +kernel
theorem dX0_init_20 : decode cX0_init 20 = .ok (.putfield 17, 3) := by decide +kernel
theorem dX0_init_23 : decode cX0_init 23 = .ok (.bipush 25, 2) := by decide +kernel
theorem dX0_init_25 : decode cX0_init 25 = .ok (.istore_n 1, 1) := by decide +kernel
theorem dX0_init_26 : decode cX0_init 26 = .ok (.aload_n 0, 1) := by decide +kernel
theorem dX0_init_27 : decode cX0_init 27 = .ok (.getfield 9, 3) := by decide +kernel
theorem dX0_init_30 : decode cX0_init 30 = .ok (.iload_n 1, 1) := by decide +kernel
theorem dX0_init_31 : decode cX0_init 31 = .ok (.iload_n 1, 1) := by decide +kernel
theorem dX0_init_32 : decode cX0_init 32 = .ok (.newarray .int, 2) := by decide +kernel
theorem dX0_init_34 : decode cX0_init 34 = .ok (.iconst 0, 1) := by decide +kernel
theorem dX0_init_35 : decode cX0_init 35 = .ok (.iload_n 1, 1) := by decide +kernel
theorem dX0_init_36 : decode cX0_init 36 = .ok (.iconst 1, 1) := by decide +kernel
theorem dX0_init_37 : decode cX0_init 37 = .ok (.invokestatic 23, 3) := by decide +kernel
theorem dX0_init_40 : decode cX0_init 40 = .ok (.iastore, 1) := by decide +kernel
theorem dX0_init_41 : decode cX0_init 41 = .ok (.return_, 1) := by decide +kernel
theorem dX0_isPowered_0 : decode cX0_isPowered 0 = .ok (.aload_n 0, 1) := by decide +kernel
theorem dX0_isPowered_1 : decode cX0_isPowered 1 = .ok (.getfield 13, 3) := by decide +kernel
theorem dX0_isPowered_4 : decode cX0_isPowered 4 = .ok (.ireturn, 1) := by decide +kernel
theorem dX0_failAfter_0 : decode cX0_failAfter 0 = .ok (.aload_n 0, 1) := by decide +kernel
theorem dX0_failAfter_1 : decode cX0_failAfter 1 = .ok (.iload_n 1, 1) := by decide +kernel
theorem dX0_failAfter_2 : decode cX0_failAfter 2 = .ok (.putfield 17, 3) := by decide +kernel
theorem dX0_failAfter_5 : decode cX0_failAfter 5 = .ok (.return_, 1) := by decide +kernel
theorem dX0_switchOn_0 : decode cX0_switchOn 0 = .ok (.aload_n 0, 1) := by decide +kernel
theorem dX0_switchOn_1 : decode cX0_switchOn 1 = .ok (.iconst 1, 1) := by decide +kernel
theorem dX0_switchOn_2 : decode cX0_switchOn 2 = .ok (.putfield 13, 3) := by decide +kernel
theorem dX0_switchOn_5 : decode cX0_switchOn 5 = .ok (.aload_n 0, 1) := by decide +kernel
theorem dX0_switchOn_6 : decode cX0_switchOn 6 = .ok (.iconst (-1), 1) := by decide +kernel
theorem dX0_switchOn_7 : decode cX0_switchOn 7 = .ok (.putfield 17, 3) := by decide +kernel
theorem dX0_switchOn_10 : decode cX0_switchOn 10 = .ok (.return_, 1) := by decide +kernel
set_option maxRecDepth 20000 in
theorem ggX0_at_X0_has : GoodIn wsX0_at wsX0_has := goodIn_r _ [6] (by decide +kernel) (by decide +kernel)
set_option maxRecDepth 20000 in
theorem gX0_at_X0_has : GoodIn wsX0_at (wsV RX0 27 RX0 yX0_has wsX0_has) := goodIn_app (goodIn_of _ (by decide +kernel)) ggX0_at_X0_has
theorem dX0_at_0 : decode cX0_at 0 = .ok (.aload_n 0, 1) := by decide +kernel
theorem dX0_at_1 : decode cX0_at 1 = .ok (.iload_n 1, 1) := by decide +kernel
theorem dX0_at_2 : decode cX0_at 2 = .ok (.invokevirtual 27, 3) := by decide +kernel
theorem dX0_at_5 : decode cX0_at 5 = .ok (.ifCond .eq 12, 3) := by decide +kernel
theorem dX0_at_8 : decode cX0_at 8 = .ok (.aload_n 0, 1) := by decide +kernel
theorem dX0_at_9 : decode cX0_at 9 = .ok (.getfield 9, 3) := by decide +kernel
theorem dX0_at_12 : decode cX0_at 12 = .ok (.iload_n 1, 1) := by decide +kernel
theorem dX0_at_13 : decode cX0_at 13 = .ok (.iaload, 1) := by decide +kernel
theorem dX0_at_14 : decode cX0_at 14 = .ok (.goto 4, 3) := by decide +kernel
theorem dX0_at_17 : decode cX0_at 17 = .ok (.iconst 0, 1) := by decide +kernel
theorem dX0_at_18 : decode cX0_at 18 = .ok (.ireturn, 1) := by decide +kernel
set_option maxRecDepth 20000 in
theorem ggX0_put_X0_has : GoodIn wsX0_put wsX0_has := goodIn_r _ [6] (by decide +kernel) (by decide +kernel)
set_option maxRecDepth 20000 in
theorem gX0_put_X0_has : GoodIn wsX0_put (wsV RX0 27 RX0 yX0_has wsX0_has) := goodIn_app (goodIn_of _ (by decide +kernel)) ggX0_put_X0_has
theorem dX0_put_0 : decode cX0_put 0 = .ok (.aload_n 0, 1) := by decide +kernel
theorem dX0_put_1 : decode cX0_put 1 = .ok (.iload_n 1, 1) := by decide +kernel
theorem dX0_put_2 : decode cX0_put 2 = .ok (.invokevirtual 27, 3) := by decide +kernel
theorem dX0_put_5 : decode cX0_put 5 = .ok (.ifCond .ne 5, 3) := by decide +kernel
theorem dX0_put_8 : decode cX0_put 8 = .ok (.iconst 0, 1) := by decide +kernel
theorem dX0_put_9 : decode cX0_put 9 = .ok (.ireturn, 1) := by decide +kernel
theorem dX0_put_10 : decode cX0_put 10 = .ok (.aload_n 0, 1) := by decide +kernel
theorem dX0_put_11 : decode cX0_put 11 = .ok (.getfield 9, 3) := by decide +kernel
theorem dX0_put_14 : decode cX0_put 14 = .ok (.iload_n 1, 1) := by decide +kernel
theorem dX0_put_15 : decode cX0_put 15 = .ok (.iload_n 2, 1) := by decide +kernel
theorem dX0_put_16 : decode cX0_put 16 = .ok (.iastore, 1) := by decide +kernel
theorem dX0_put_17 : decode cX0_put 17 = .ok (.iconst 1, 1) := by decide +kernel
theorem dX0_put_18 : decode cX0_put 18 = .ok (.ireturn, 1) := by decide +kernel
set_option maxRecDepth 20000 in
theorem ggX0_writeRow_X0_writeWord : GoodIn wsX0_writeRow wsX0_writeWord := goodIn_r _ [5, 6, 7, 8, 9, 10, 4, 11, 12, 13, 14, 15, 16, 17, 18, 19] (by decide +kernel) (by decide +kernel)
set_option maxRecDepth 20000 in
theorem gX0_writeRow_X0_writeWord : GoodIn wsX0_writeRow (wsV RX0 31 RX0 yX0_writeWord wsX0_writeWord) := goodIn_app (goodIn_of _ (by decide +kernel)) ggX0_writeRow_X0_writeWord
theorem dX0_writeRow_0 : decode cX0_writeRow 0 = .ok (.iconst 0, 1) := by decide +kernel
theorem dX0_writeRow_1 : decode cX0_writeRow 1 = .ok (.istore_n 3, 1) := by decide +kernel
theorem dX0_writeRow_2 : decode cX0_writeRow 2 = .ok (.iload_n 3, 1) := by decide +kernel
theorem dX0_writeRow_3 : decode cX0_writeRow 3 = .ok (.aload_n 2, 1) := by decide +kernel
theorem dX0_writeRow_4 : decode cX0_writeRow 4 = .ok (.arraylength, 1) := by decide +kernel
theorem dX0_writeRow_5 : decode cX0_writeRow 5 = .ok (.if_icmp .ge 24, 3) := by decide +kernel
theorem dX0_writeRow_8 : decode cX0_writeRow 8 = .ok (.aload_n 0, 1) := by decide +kernel
theorem dX0_writeRow_9 : decode cX0_writeRow 9 = .ok (.iload_n 1, 1) := by decide +kernel
theorem dX0_writeRow_10 : decode cX0_writeRow 10 = .ok (.iload_n 3, 1) := by decide +kernel
theorem dX0_writeRow_11 : decode cX0_writeRow 11 = .ok (.iadd, 1) := by decide +kernel
theorem dX0_writeRow_12 : decode cX0_writeRow 12 = .ok (.aload_n 2, 1) := by decide +kernel
theorem dX0_writeRow_13 : decode cX0_writeRow 13 = .ok (.iload_n 3, 1) := by decide +kernel
theorem dX0_writeRow_14 : decode cX0_writeRow 14 = .ok (.iaload, 1) := by decide +kernel
theorem dX0_writeRow_15 : decode cX0_writeRow 15 = .ok (.invokevirtual 31, 3) := by decide +kernel
theorem dX0_writeRow_18 : decode cX0_writeRow 18 = .ok (.ifCond .ne 5, 3) := by decide +kernel
theorem dX0_writeRow_21 : decode cX0_writeRow 21 = .ok (.iconst 0, 1) := by decide +kernel
theorem dX0_writeRow_22 : decode cX0_writeRow 22 = .ok (.ireturn, 1) := by decide +kernel
theorem dX0_writeRow_23 : decode cX0_writeRow 23 = .ok (.iinc 3 1, 3) := by decide +kernel
theorem dX0_writeRow_26 : decode cX0_writeRow 26 = .ok (.goto (-24), 3) := by decide +kernel
theorem dX0_writeRow_29 : decode cX0_writeRow 29 = .ok (.iconst 1, 1) := by decide +kernel
theorem dX0_writeRow_30 : decode cX0_writeRow 30 = .ok (.ireturn, 1) := by decide +kernel
set_option maxRecDepth 20000 in
theorem ggX0_isCheckRight_X0_at : GoodIn wsX0_isCheckRight wsX0_at := goodIn_r _ [6, 1, 7, 8, 9, 5, 10, 19, 20, 21] (by decide +kernel) (by decide +kernel)
set_option maxRecDepth 20000 in
theorem gX0_isCheckRight_X0_at : GoodIn wsX0_isCheckRight (wsV RX0 35 RX0 yX0_at wsX0_at) := goodIn_app (goodIn_of _ (by decide +kernel)) ggX0_isCheckRight_X0_at
set_option maxRecDepth 20000 in
theorem ggX0_isCheckRight_X0_checkOf : GoodIn wsX0_isCheckRight wsX0_checkOf := goodIn_r _ [13, 14, 15, 5, 16, 17, 18] (by decide +kernel) (by decide +kernel)
set_option maxRecDepth 20000 in
theorem gX0_isCheckRight_X0_checkOf : GoodIn wsX0_isCheckRight (va_wsS RX0 23 yX0_checkOf wsX0_checkOf) := goodIn_app (goodIn_of _ (by decide +kernel)) ggX0_isCheckRight_X0_checkOf
theorem dX0_isCheckRight_0 : decode cX0_isCheckRight 0 = .ok (.aload_n 0, 1) := by decide +kernel
theorem dX0_isCheckRight_1 : decode cX0_isCheckRight 1 = .ok (.iload_n 1, 1) := by decide +kernel
theorem dX0_isCheckRight_2 : decode cX0_isCheckRight 2 = .ok (.iload_n 2, 1) := by decide +kernel
theorem dX0_isCheckRight_3 : decode cX0_isCheckRight 3 = .ok (.iadd, 1) := by decide +kernel
theorem dX0_isCheckRight_4 : decode cX0_isCheckRight 4 = .ok (.invokevirtual 35, 3) := by decide +kernel
theorem dX0_isCheckRight_7 : decode cX0_isCheckRight 7 = .ok (.aload_n 0, 1) := by decide +kernel
theorem dX0_isCheckRight_8 : decode cX0_isCheckRight 8 = .ok (.getfield 9, 3) := by decide +kernel
theorem dX0_isCheckRight_11 : decode cX0_isCheckRight 11 = .ok (.iload_n 1, 1) := by decide +kernel
theorem dX0_isCheckRight_12 : decode cX0_isCheckRight 12 = .ok (.iload_n 2, 1) := by decide +kernel
theorem dX0_isCheckRight_13 : decode cX0_isCheckRight 13 = .ok (.iload_n 3, 1) := by decide +kernel
theorem dX0_isCheckRight_14 : decode cX0_isCheckRight 14 = .ok (.invokestatic 23, 3) := by decide +kernel
theorem dX0_isCheckRight_17 : decode cX0_isCheckRight 17 = .ok (.if_icmp .ne 7, 3) := by decide +kernel
theorem dX0_isCheckRight_20 : decode cX0_isCheckRight 20 = .ok (.iconst 1, 1) := by decide +kernel
theorem dX0_isCheckRight_21 : decode cX0_isCheckRight 21 = .ok (.goto 4, 3) := by decide +kernel
theorem dX0_isCheckRight_24 : decode cX0_isCheckRight 24 = .ok (.iconst 0, 1) := by decide +kernel
theorem dX0_isCheckRight_25 : decode cX0_isCheckRight 25 = .ok (.ireturn, 1) := by decide +kernel
set_option maxRecDepth 20000 in
theorem ggX0_checkOf_X0_mix : GoodIn wsX0_checkOf wsX0_mix := goodIn_r _ [4, 5, 6] (by decide +kernel) (by decide +kernel)
set_option maxRecDepth 20000 in
theorem gX0_checkOf_X0_mix : GoodIn wsX0_checkOf (va_wsS RX0 39 yX0_mix wsX0_mix) := goodIn_app (goodIn_of _ (by decide +kernel)) ggX0_checkOf_X0_mix
theorem dX0_checkOf_0 : decode cX0_checkOf 0 = .ok (.iload_n 3, 1) := by decide +kernel
theorem dX0_checkOf_1 : decode cX0_checkOf 1 = .ok (.istore 4, 2) := by decide +kernel
theorem dX0_checkOf_3 : decode cX0_checkOf 3 = .ok (.iconst 0, 1) := by decide +kernel
theorem dX0_checkOf_4 : decode cX0_checkOf 4 = .ok (.istore 5, 2) := by decide +kernel
theorem dX0_checkOf_6 : decode cX0_checkOf 6 = .ok (.iload 5, 2) := by decide +kernel
theorem dX0_checkOf_8 : decode cX0_checkOf 8 = .ok (.iload_n 2, 1) := by decide +kernel
theorem dX0_checkOf_9 : decode cX0_checkOf 9 = .ok (.if_icmp .ge 22, 3) := by decide +kernel
theorem dX0_checkOf_12 : decode cX0_checkOf 12 = .ok (.iload 4, 2) := by decide +kernel
theorem dX0_checkOf_14 : decode cX0_checkOf 14 = .ok (.aload_n 0, 1) := by decide +kernel
theorem dX0_checkOf_15 : decode cX0_checkOf 15 = .ok (.iload_n 1, 1) := by decide +kernel
theorem dX0_checkOf_16 : decode cX0_checkOf 16 = .ok (.iload 5, 2) := by decide +kernel
theorem dX0_checkOf_18 : decode cX0_checkOf 18 = .ok (.iadd, 1) := by decide +kernel
theorem dX0_checkOf_19 : decode cX0_checkOf 19 = .ok (.iaload, 1) := by decide +kernel
theorem dX0_checkOf_20 : decode cX0_checkOf 20 = .ok (.invokestatic 39, 3) := by decide +kernel
theorem dX0_checkOf_23 : decode cX0_checkOf 23 = .ok (.istore 4, 2) := by decide +kernel
theorem dX0_checkOf_25 : decode cX0_checkOf 25 = .ok (.iinc 5 1, 3) := by decide +kernel
theorem dX0_checkOf_28 : decode cX0_checkOf 28 = .ok (.goto (-22), 3) := by decide +kernel
theorem dX0_checkOf_31 : decode cX0_checkOf 31 = .ok (.iload 4, 2) := by decide +kernel
theorem dX0_checkOf_33 : decode cX0_checkOf 33 = .ok (.iconst 1, 1) := by decide +kernel
theorem dX0_checkOf_34 : decode cX0_checkOf 34 = .ok (.ior, 1) := by decide +kernel
theorem dX0_checkOf_35 : decode cX0_checkOf 35 = .ok (.ireturn, 1) := by decide +kernel
theorem dX0_has_0 : decode cX0_has 0 = .ok (.iload_n 1, 1) := by decide +kernel
theorem dX0_has_1 : decode cX0_has 1 = .ok (.ifCond .lt 14, 3) := by decide +kernel
theorem dX0_has_4 : decode cX0_has 4 = .ok (.iload_n 1, 1) := by decide +kernel
theorem dX0_has_5 : decode cX0_has 5 = .ok (.sipush 172, 3) := by decide +kernel
theorem dX0_has_8 : decode cX0_has 8 = .ok (.if_icmp .ge 7, 3) := by decide +kernel
theorem dX0_has_11 : decode cX0_has 11 = .ok (.iconst 1, 1) := by decide +kernel
theorem dX0_has_12 : decode cX0_has 12 = .ok (.goto 4, 3) := by decide +kernel
theorem dX0_has_15 : decode cX0_has 15 = .ok (.iconst 0, 1) := by decide +kernel
theorem dX0_has_16 : decode cX0_has 16 = .ok (.ireturn, 1) := by decide +kernel
set_option maxRecDepth 20000 in
theorem ggX0_writeWord_X0_put : GoodIn wsX0_writeWord wsX0_put := goodIn_r _ [7, 8, 9, 10, 11, 6, 12, 13, 14, 15] (by decide +kernel) (by decide +kernel)
set_option maxRecDepth 20000 in
theorem gX0_writeWord_X0_put : GoodIn wsX0_writeWord (wsV RX0 43 RX0 yX0_put wsX0_put) := goodIn_app (goodIn_of _ (by decide +kernel)) ggX0_writeWord_X0_put
theorem dX0_writeWord_0 : decode cX0_writeWord 0 = .ok (.aload_n 0, 1) := by decide +kernel
theorem dX0_writeWord_1 : decode cX0_writeWord 1 = .ok (.getfield 17, 3) := by decide +kernel
theorem dX0_writeWord_4 : decode cX0_writeWord 4 = .ok (.ifCond .ne 10, 3) := by decide +kernel
theorem dX0_writeWord_7 : decode cX0_writeWord 7 = .ok (.aload_n 0, 1) := by decide +kernel
theorem dX0_writeWord_8 : decode cX0_writeWord 8 = .ok (.iconst 0, 1) := by decide +kernel
theorem dX0_writeWord_9 : decode cX0_writeWord 9 = .ok (.putfield 13, 3) := by decide +kernel
theorem dX0_writeWord_12 : decode cX0_writeWord 12 = .ok (.iconst 0, 1) := by decide +kernel
theorem dX0_writeWord_13 : decode cX0_writeWord 13 = .ok (.ireturn, 1) := by decide +kernel
theorem dX0_writeWord_14 : decode cX0_writeWord 14 = .ok (.aload_n 0, 1) := by decide +kernel
theorem dX0_writeWord_15 : decode cX0_writeWord 15 = .ok (.getfield 17, 3) := by decide +kernel
theorem dX0_writeWord_18 : decode cX0_writeWord 18 = .ok (.ifCond .le 13, 3) := by decide +kernel
theorem dX0_writeWord_21 : decode cX0_writeWord 21 = .ok (.aload_n 0, 1) := by decide +kernel
theorem dX0_writeWord_22 : decode cX0_writeWord 22 = .ok (.dup, 1) := by decide +kernel
theorem dX0_writeWord_23 : decode cX0_writeWord 23 = .ok (.getfield 17, 3) := by decide +kernel
theorem dX0_writeWord_26 : decode cX0_writeWord 26 = .ok (.iconst 1, 1) := by decide +kernel
theorem dX0_writeWord_27 : decode cX0_writeWord 27 = .ok (.isub, 1) := by decide +kernel
theorem dX0_writeWord_28 : decode cX0_writeWord 28 = .ok (.putfield 17, 3) := by decide +kernel
theorem dX0_writeWord_31 : decode cX0_writeWord 31 = .ok (.aload_n 0, 1) := by decide +kernel
theorem dX0_writeWord_32 : decode cX0_writeWord 32 = .ok (.iload_n 1, 1) := by decide +kernel
theorem dX0_writeWord_33 : decode cX0_writeWord 33 = .ok (.iload_n 2, 1) := by decide +kernel
theorem dX0_writeWord_34 : decode cX0_writeWord 34 = .ok (.invokevirtual 43, 3) := by decide +kernel
theorem dX0_writeWord_37 : decode cX0_writeWord 37 = .ok (.ireturn, 1) := by decide +kernel
theorem dX0_mix_0 : decode cX0_mix 0 = .ok (.iload_n 0, 1) := by decide +kernel
theorem dX0_mix_1 : decode cX0_mix 1 = .ok (.iload_n 1, 1) := by decide +kernel
theorem dX0_mix_2 : decode cX0_mix 2 = .ok (.ixor, 1) := by decide +kernel
theorem dX0_mix_3 : decode cX0_mix 3 = .ok (.ldc 46, 2) := by decide +kernel
theorem dX0_mix_5 : decode cX0_mix 5 = .ok (.imul, 1) := by decide +kernel
theorem dX0_mix_6 : decode cX0_mix 6 = .ok (.ldc 47, 2) := by decide +kernel
theorem dX0_mix_8 : decode cX0_mix 8 = .ok (.iadd, 1) := by decide +kernel
theorem dX0_mix_9 : decode cX0_mix 9 = .ok (.istore_n 2, 1) := by decide +kernel
theorem dX0_mix_10 : decode cX0_mix 10 = .ok (.iload_n 2, 1) := by decide +kernel
theorem dX0_mix_11 : decode cX0_mix 11 = .ok (.iload_n 2, 1) := by decide +kernel
theorem dX0_mix_12 : decode cX0_mix 12 = .ok (.bipush 15, 2) := by decide +kernel
theorem dX0_mix_14 : decode cX0_mix 14 = .ok (.iushr, 1) := by decide +kernel
theorem dX0_mix_15 : decode cX0_mix 15 = .ok (.ixor, 1) := by decide +kernel
theorem dX0_mix_16 : decode cX0_mix 16 = .ok (.ireturn, 1) := by decide +kernel
theorem dX1_init_0 : decode cX1_init 0 = .ok (.aload_n 0, 1) := by decide +kernel
theorem dX1_init_1 : decode cX1_init 1 = .ok (.invokespecial 3, 3) := by decide +kernel
theorem dX1_init_4 : decode cX1_init 4 = .ok (.aload_n 0, 1) := by decide +kernel
theorem dX1_init_5 : decode cX1_init 5 = .ok (.bipush 16, 2) := by decide +kernel
theorem dX1_init_7 : decode cX1_init 7 = .ok (.newarray .int, 2) := by decide +kernel
theorem dX1_init_9 : decode cX1_init 9 = .ok (.putfield 9, 3) := by decide +kernel
theorem dX1_init_12 : decode cX1_init 12 = .ok (.aload_n 0, 1) := by decide +kernel
theorem dX1_init_13 : decode cX1_init 13 = .ok (.bipush 16, 2) := by decide +kernel
theorem dX1_init_15 : decode cX1_init 15 = .ok (.newarray .long, 2) := by decide +kernel
theorem dX1_init_17 : decode cX1_init 17 = .ok (.putfield 15, 3) := by decide +kernel
theorem dX1_init_20 : decode cX1_init 20 = .ok (.aload_n 0, 1) := by decide +kernel
theorem dX1_init_21 : decode cX1_init 21 = .ok (.iconst 0, 1) := by decide +kernel
theorem dX1_init_22 : decode cX1_init 22 = .ok (.putfield 19, 3) := by decide +kernel
theorem dX1_init_25 : decode cX1_init 25 = .ok (.return_, 1) := by decide +kernel
theorem dX1_clear_0 : decode cX1_clear 0 = .ok (.aload_n 0, 1) := by decide +kernel
theorem dX1_clear_1 : decode cX1_clear 1 = .ok (.iconst 0, 1) := by decide +kernel
theorem dX1_clear_2 : decode cX1_clear 2 = .ok (.putfield 19, 3) := by decide +kernel
theorem dX1_clear_5 : decode cX1_clear 5 = .ok (.return_, 1) := by decide +kernel
set_option maxRecDepth 20000 in
theorem ggX1_rankNeighbours_X1_clear : GoodIn wsX1_rankNeighbours wsX1_clear := goodIn_r _ [5, 6, 20, 21, 22] (by decide +kernel) (by decide +kernel)
set_option maxRecDepth 20000 in
theorem gX1_rankNeighbours_X1_clear : GoodIn wsX1_rankNeighbours (wsV RX1 23 RX1 yX1_clear wsX1_clear) := goodIn_app (goodIn_of _ (by decide +kernel)) ggX1_rankNeighbours_X1_clear
set_option maxRecDepth 20000 in
theorem ggX1_rankNeighbours_X2_weightOf : GoodIn wsX1_rankNeighbours wsX2_weightOf := goodIn_r _ [11, 12, 13, 23, 24] (by decide +kernel) (by decide +kernel)
set_option maxRecDepth 20000 in
theorem gX1_rankNeighbours_X2_weightOf : GoodIn wsX1_rankNeighbours (wsV RX1 26 RX2 yX2_weightOf wsX2_weightOf) := goodIn_app (goodIn_of _ (by decide +kernel)) ggX1_rankNeighbours_X2_weightOf
set_option maxRecDepth 20000 in
theorem ggX1_rankNeighbours_X1_add : GoodIn wsX1_rankNeighbours wsX1_add := goodIn_r _ [17, 6, 18, 19, 20, 21, 22] (by decide +kernel) (by decide +kernel)
set_option maxRecDepth 20000 in
theorem gX1_rankNeighbours_X1_add : GoodIn wsX1_rankNeighbours (wsV RX1 32 RX1 yX1_add wsX1_add) := goodIn_app (goodIn_of _ (by decide +kernel)) ggX1_rankNeighbours_X1_add
theorem dX1_rankNeighbours_0 : decode cX1_rankNeighbours 0 = .ok (.aload_n 0, 1) := by decide +kernel
theorem dX1_rankNeighbours_1 : decode cX1_rankNeighbours 1 = .ok (.invokevirtual 23, 3) := by decide +kernel
theorem dX1_rankNeighbours_4 : decode cX1_rankNeighbours 4 = .ok (.iconst 0, 1) := by decide +kernel
theorem dX1_rankNeighbours_5 : decode cX1_rankNeighbours 5 = .ok (.istore_n 3, 1) := by decide +kernel
theorem dX1_rankNeighbours_6 : decode cX1_rankNeighbours 6 = .ok (.iload_n 3, 1) := by decide +kernel
theorem dX1_rankNeighbours_7 : decode cX1_rankNeighbours 7 = .ok (.bipush 16, 2) := by decide +kernel
theorem dX1_rankNeighbours_9 : decode cX1_rankNeighbours 9 = .ok (.if_icmp .ge 21, 3) := by decide +kernel
theorem dX1_rankNeighbours_12 : decode cX1_rankNeighbours 12 = .ok (.aload_n 0, 1) := by decide +kernel
theorem dX1_rankNeighbours_13 : decode cX1_rankNeighbours 13 = .ok (.iload_n 3, 1) := by decide +kernel
theorem dX1_rankNeighbours_14 : decode cX1_rankNeighbours 14 = .ok (.aload_n 1, 1) := by decide +kernel
theorem dX1_rankNeighbours_15 : decode cX1_rankNeighbours 15 = .ok (.iload_n 3, 1) := by decide +kernel
theorem dX1_rankNeighbours_16 : decode cX1_rankNeighbours 16 = .ok (.iload_n 2, 1) := by decide +kernel
theorem dX1_rankNeighbours_17 : decode cX1_rankNeighbours 17 = .ok (.invokevirtual 26, 3) := by decide +kernel
theorem dX1_rankNeighbours_20 : decode cX1_rankNeighbours 20 = .ok (.i2l, 1) := by decide +kernel
theorem dX1_rankNeighbours_21 : decode cX1_rankNeighbours 21 = .ok (.invokevirtual 32, 3) := by decide +kernel
theorem dX1_rankNeighbours_24 : decode cX1_rankNeighbours 24 = .ok (.iinc 3 1, 3) := by decide +kernel
theorem dX1_rankNeighbours_27 : decode cX1_rankNeighbours 27 = .ok (.goto (-21), 3) := by decide +kernel
theorem dX1_rankNeighbours_30 : decode cX1_rankNeighbours 30 = .ok (.return_, 1) := by decide +kernel
set_option maxRecDepth 20000 in
theorem ggX1_rankBest_X1_clear : GoodIn wsX1_rankBest wsX1_clear := goodIn_r _ [5, 6, 33, 34, 35] (by decide +kernel) (by decide +kernel)
set_option maxRecDepth 20000 in
theorem gX1_rankBest_X1_clear : GoodIn wsX1_rankBest (wsV RX1 23 RX1 yX1_clear wsX1_clear) := goodIn_app (goodIn_of _ (by decide +kernel)) ggX1_rankBest_X1_clear
set_option maxRecDepth 20000 in
theorem ggX1_rankBest_X2_at : GoodIn wsX1_rankBest wsX2_at := goodIn_r _ [11, 12, 36, 37] (by decide +kernel) (by decide +kernel)
set_option maxRecDepth 20000 in
theorem gX1_rankBest_X2_at : GoodIn wsX1_rankBest (wsV RX1 36 RX2 yX2_at wsX2_at) := goodIn_app (goodIn_of _ (by decide +kernel)) ggX1_rankBest_X2_at
set_option maxRecDepth 20000 in
theorem ggX1_rankBest_X2_scoreOf : GoodIn wsX1_rankBest wsX2_scoreOf := goodIn_r _ [16, 17, 18, 19, 10, 20, 12, 21, 22, 23, 24, 25, 26, 36, 37] (by decide +kernel) (by decide +kernel)
set_option maxRecDepth 20000 in
theorem gX1_rankBest_X2_scoreOf : GoodIn wsX1_rankBest (wsV RX1 39 RX2 yX2_scoreOf wsX2_scoreOf) := goodIn_app (goodIn_of _ (by decide +kernel)) ggX1_rankBest_X2_scoreOf
set_option maxRecDepth 20000 in
theorem ggX1_rankBest_X1_add : GoodIn wsX1_rankBest wsX1_add := goodIn_r _ [30, 6, 31, 32, 33, 34, 35] (by decide +kernel) (by decide +kernel)
set_option maxRecDepth 20000 in
theorem gX1_rankBest_X1_add : GoodIn wsX1_rankBest (wsV RX1 32 RX1 yX1_add wsX1_add) := goodIn_app (goodIn_of _ (by decide +kernel)) ggX1_rankBest_X1_add
theorem dX1_rankBest_0 : decode cX1_rankBest 0 = .ok (.aload_n 0, 1) := by decide +kernel
theorem dX1_rankBest_1 : decode cX1_rankBest 1 = .ok (.invokevirtual 23, 3) := by decide +kernel
theorem dX1_rankBest_4 : decode cX1_rankBest 4 = .ok (.iconst 0, 1) := by decide +kernel
theorem dX1_rankBest_5 : decode cX1_rankBest 5 = .ok (.istore_n 3, 1) := by decide +kernel
theorem dX1_rankBest_6 : decode cX1_rankBest 6 = .ok (.iload_n 3, 1) := by decide +kernel
theorem dX1_rankBest_7 : decode cX1_rankBest 7 = .ok (.bipush 16, 2) := by decide +kernel
theorem dX1_rankBest_9 : decode cX1_rankBest 9 = .ok (.if_icmp .ge 29, 3) := by decide +kernel
theorem dX1_rankBest_12 : decode cX1_rankBest 12 = .ok (.aload_n 1, 1) := by decide +kernel
theorem dX1_rankBest_13 : decode cX1_rankBest 13 = .ok (.iload_n 2, 1) := by decide +kernel
theorem dX1_rankBest_14 : decode cX1_rankBest 14 = .ok (.iload_n 3, 1) := by decide +kernel
theorem dX1_rankBest_15 : decode cX1_rankBest 15 = .ok (.invokevirtual 36, 3) := by decide +kernel
theorem dX1_rankBest_18 : decode cX1_rankBest 18 = .ok (.ifCond .ne 14, 3) := by decide +kernel
theorem dX1_rankBest_21 : decode cX1_rankBest 21 = .ok (.aload_n 0, 1) := by decide +kernel
theorem dX1_rankBest_22 : decode cX1_rankBest 22 = .ok (.iload_n 3, 1) := by decide +kernel
theorem dX1_rankBest_23 : decode cX1_rankBest 23 = .ok (.aload_n 1, 1) := by decide +kernel
theorem dX1_rankBest_24 : decode cX1_rankBest 24 = .ok (.iload_n 2, 1) := by decide +kernel
theorem dX1_rankBest_25 : decode cX1_rankBest 25 = .ok (.iload_n 3, 1) := by decide +kernel
theorem dX1_rankBest_26 : decode cX1_rankBest 26 = .ok (.invokevirtual 39, 3) := by decide +kernel
theorem dX1_rankBest_29 : decode cX1_rankBest 29 = .ok (.invokevirtual 32, 3) := by decide +kernel
theorem dX1_rankBest_32 : decode cX1_rankBest 32 = .ok (.iinc 3 1, 3) := by decide +kernel
theorem dX1_rankBest_35 : decode cX1_rankBest 35 = .ok (.goto (-29), 3) := by decide +kernel
theorem dX1_rankBest_38 : decode cX1_rankBest 38 = .ok (.return_, 1) := by decide +kernel
theorem dX1_has_0 : decode cX1_has 0 = .ok (.iload_n 1, 1) := by decide +kernel
theorem dX1_has_1 : decode cX1_has 1 = .ok (.ifCond .lt 15, 3) := by decide +kernel
theorem dX1_has_4 : decode cX1_has 4 = .ok (.iload_n 1, 1) := by decide +kernel
theorem dX1_has_5 : decode cX1_has 5 = .ok (.aload_n 0, 1) := by decide +kernel
theorem dX1_has_6 : decode cX1_has 6 = .ok (.getfield 19, 3) := by decide +kernel
theorem dX1_has_9 : decode cX1_has 9 = .ok (.if_icmp .ge 7, 3) := by decide +kernel
theorem dX1_has_12 : decode cX1_has 12 = .ok (.iconst 1, 1) := by decide +kernel
theorem dX1_has_13 : decode cX1_has 13 = .ok (.goto 4, 3) := by decide +kernel
theorem dX1_has_16 : decode cX1_has 16 = .ok (.iconst 0, 1) := by decide +kernel
theorem dX1_has_17 : decode cX1_has 17 = .ok (.ireturn, 1) := by decide +kernel
set_option maxRecDepth 20000 in
theorem ggX1_itemAt_X1_has : GoodIn wsX1_itemAt wsX1_has := goodIn_r _ [6, 7, 8, 9, 10] (by decide +kernel) (by decide +kernel)
set_option maxRecDepth 20000 in
theorem gX1_itemAt_X1_has : GoodIn wsX1_itemAt (wsV RX1 43 RX1 yX1_has wsX1_has) := goodIn_app (goodIn_of _ (by decide +kernel)) ggX1_itemAt_X1_has
theorem dX1_itemAt_0 : decode cX1_itemAt 0 = .ok (.aload_n 0, 1) := by decide +kernel
theorem dX1_itemAt_1 : decode cX1_itemAt 1 = .ok (.iload_n 1, 1) := by decide +kernel
theorem dX1_itemAt_2 : decode cX1_itemAt 2 = .ok (.invokevirtual 43, 3) := by decide +kernel
theorem dX1_itemAt_5 : decode cX1_itemAt 5 = .ok (.ifCond .eq 12, 3) := by decide +kernel
theorem dX1_itemAt_8 : decode cX1_itemAt 8 = .ok (.aload_n 0, 1) := by decide +kernel
theorem dX1_itemAt_9 : decode cX1_itemAt 9 = .ok (.getfield 9, 3) := by decide +kernel
theorem dX1_itemAt_12 : decode cX1_itemAt 12 = .ok (.iload_n 1, 1) := by decide +kernel
theorem dX1_itemAt_13 : decode cX1_itemAt 13 = .ok (.iaload, 1) := by decide +kernel
theorem dX1_itemAt_14 : decode cX1_itemAt 14 = .ok (.goto 4, 3) := by decide +kernel
theorem dX1_itemAt_17 : decode cX1_itemAt 17 = .ok (.iconst (-1), 1) := by decide +kernel
theorem dX1_itemAt_18 : decode cX1_itemAt 18 = .ok (.ireturn, 1) := by decide +kernel
set_option maxRecDepth 20000 in
theorem ggX1_valueAt_X1_has : GoodIn wsX1_valueAt wsX1_has := goodIn_r _ [6, 7, 8, 9, 10] (by decide +kernel) (by decide +kernel)
set_option maxRecDepth 20000 in
theorem gX1_valueAt_X1_has : GoodIn wsX1_valueAt (wsV RX1 43 RX1 yX1_has wsX1_has) := goodIn_app (goodIn_of _ (by decide +kernel)) ggX1_valueAt_X1_has
theorem dX1_valueAt_0 : decode cX1_valueAt 0 = .ok (.aload_n 0, 1) := by decide +kernel
theorem dX1_valueAt_1 : decode cX1_valueAt 1 = .ok (.iload_n 1, 1) := by decide +kernel
theorem dX1_valueAt_2 : decode cX1_valueAt 2 = .ok (.invokevirtual 43, 3) := by decide +kernel
theorem dX1_valueAt_5 : decode cX1_valueAt 5 = .ok (.ifCond .eq 12, 3) := by decide +kernel
theorem dX1_valueAt_8 : decode cX1_valueAt 8 = .ok (.aload_n 0, 1) := by decide +kernel
theorem dX1_valueAt_9 : decode cX1_valueAt 9 = .ok (.getfield 15, 3) := by decide +kernel
theorem dX1_valueAt_12 : decode cX1_valueAt 12 = .ok (.iload_n 1, 1) := by decide +kernel
theorem dX1_valueAt_13 : decode cX1_valueAt 13 = .ok (.laload, 1) := by decide +kernel
theorem dX1_valueAt_14 : decode cX1_valueAt 14 = .ok (.goto 4, 3) := by decide +kernel
theorem dX1_valueAt_17 : decode cX1_valueAt 17 = .ok (.lconst 0, 1) := by decide +kernel
theorem dX1_valueAt_18 : decode cX1_valueAt 18 = .ok (.lreturn, 1) := by decide +kernel
theorem dX1_add_0 : decode cX1_add 0 = .ok (.lload_n 2, 1) := by decide +kernel
theorem dX1_add_1 : decode cX1_add 1 = .ok (.lconst 0, 1) := by decide +kernel
theorem dX1_add_2 : decode cX1_add 2 = .ok (.lcmp, 1) := by decide +kernel
theorem dX1_add_3 : decode cX1_add 3 = .ok (.ifCond .le 12, 3) := by decide +kernel
theorem dX1_add_6 : decode cX1_add 6 = .ok (.aload_n 0, 1) := by decide +kernel
theorem dX1_add_7 : decode cX1_add 7 = .ok (.getfield 19, 3) := by decide +kernel
theorem dX1_add_10 : decode cX1_add 10 = .ok (.bipush 16, 2) := by decide +kernel
theorem dX1_add_12 : decode cX1_add 12 = .ok (.if_icmp .lt 4, 3) := by decide +kernel
theorem dX1_add_15 : decode cX1_add 15 = .ok (.return_, 1) := by decide +kernel
theorem dX1_add_16 : decode cX1_add 16 = .ok (.aload_n 0, 1) := by decide +kernel
theorem dX1_add_17 : decode cX1_add 17 = .ok (.getfield 19, 3) := by decide +kernel
theorem dX1_add_20 : decode cX1_add 20 = .ok (.istore 4, 2) := by decide +kernel
theorem dX1_add_22 : decode cX1_add 22 = .ok (.iload 4, 2) := by decide +kernel
theorem dX1_add_24 : decode cX1_add 24 = .ok (.ifCond .le 55, 3) := by decide +kernel
theorem dX1_add_27 : decode cX1_add 27 = .ok (.aload_n 0, 1) := by decide +kernel
theorem dX1_add_28 : decode cX1_add 28 = .ok (.getfield 15, 3) := by decide +kernel
theorem dX1_add_31 : decode cX1_add 31 = .ok (.iload 4, 2) := by decide +kernel
theorem dX1_add_33 : decode cX1_add 33 = .ok (.iconst 1, 1) := by decide +kernel
theorem dX1_add_34 : decode cX1_add 34 = .ok (.isub, 1) := by decide +kernel
theorem dX1_add_35 : decode cX1_add 35 = .ok (.laload, 1) := by decide +kernel
theorem dX1_add_36 : decode cX1_add 36 = .ok (.lload_n 2, 1) := by decide +kernel
theorem dX1_add_37 : decode cX1_add 37 = .ok (.lcmp, 1) := by decide +kernel
theorem dX1_add_38 : decode cX1_add 38 = .ok (.ifCond .ge 41, 3) := by decide +kernel
theorem dX1_add_41 : decode cX1_add 41 = .ok (.aload_n 0, 1) := by decide +kernel
theorem dX1_add_42 : decode cX1_add 42 = .ok (.getfield 9, 3) := by decide +kernel
theorem dX1_add_45 : decode cX1_add 45 = .ok (.iload 4, 2) := by decide +kernel
theorem dX1_add_47 : decode cX1_add 47 = .ok (.aload_n 0, 1) := by decide +kernel
theorem dX1_add_48 : decode cX1_add 48 = .ok (.getfield 9, 3) := by decide +kernel
theorem dX1_add_51 : decode cX1_add 51 = .ok (.iload 4, 2) := by decide +kernel
theorem dX1_add_53 : decode cX1_add 53 = .ok (.iconst 1, 1) := by decide +kernel
theorem dX1_add_54 : decode cX1_add 54 = .ok (.isub, 1) := by decide +kernel
theorem dX1_add_55 : decode cX1_add 55 = .ok (.iaload, 1) := by decide +kernel
theorem dX1_add_56 : decode cX1_add 56 = .ok (.iastore, 1) := by decide +kernel
theorem dX1_add_57 : decode cX1_add 57 = .ok (.aload_n 0, 1) := by decide +kernel
theorem dX1_add_58 : decode cX1_add 58 = .ok (.getfield 15, 3) := by decide +kernel
theorem dX1_add_61 : decode cX1_add 61 = .ok (.iload 4, 2) := by decide +kernel
theorem dX1_add_63 : decode cX1_add 63 = .ok (.aload_n 0, 1) := by decide +kernel
theorem dX1_add_64 : decode cX1_add 64 = .ok (.getfield 15, 3) := by decide +kernel
theorem dX1_add_67 : decode cX1_add 67 = .ok (.iload 4, 2) := by decide +kernel
theorem dX1_add_69 : decode cX1_add 69 = .ok (.iconst 1, 1) := by decide +kernel
theorem dX1_add_70 : decode cX1_add 70 = .ok (.isub, 1) := by decide +kernel
theorem dX1_add_71 : decode cX1_add 71 = .ok (.laload, 1) := by decide +kernel
theorem dX1_add_72 : decode cX1_add 72 = .ok (.lastore, 1) := by decide +kernel
theorem dX1_add_73 : decode cX1_add 73 = .ok (.iinc 4 (-1), 3) := by decide +kernel
theorem dX1_add_76 : decode cX1_add 76 = .ok (.goto (-54), 3) := by decide +kernel
theorem dX1_add_79 : decode cX1_add 79 = .ok (.aload_n 0, 1) := by decide +kernel
theorem dX1_add_80 : decode cX1_add 80 = .ok (.getfield 9, 3) := by decide +kernel
theorem dX1_add_83 : decode cX1_add 83 = .ok (.iload 4, 2) := by decide +kernel
theorem dX1_add_85 : decode cX1_add 85 = .ok (.iload_n 1, 1) := by decide +kernel
theorem dX1_add_86 : decode cX1_add 86 = .ok (.iastore, 1) := by decide +kernel
theorem dX1_add_87 : decode cX1_add 87 = .ok (.aload_n 0, 1) := by decide +kernel
theorem dX1_add_88 : decode cX1_add 88 = .ok (.getfield 15, 3) := by decide +kernel
theorem dX1_add_91 : decode cX1_add 91 = .ok (.iload 4, 2) := by decide +kernel
theorem dX1_add_93 : decode cX1_add 93 = .ok (.lload_n 2, 1) := by decide +kernel
theorem dX1_add_94 : decode cX1_add 94 = .ok (.lastore, 1) := by decide +kernel
theorem dX1_add_95 : decode cX1_add 95 = .ok (.aload_n 0, 1) := by decide +kernel
theorem dX1_add_96 : decode cX1_add 96 = .ok (.dup, 1) := by decide +kernel
theorem dX1_add_97 : decode cX1_add 97 = .ok (.getfield 19, 3) := by decide +kernel
theorem dX1_add_100 : decode cX1_add 100 = .ok (.iconst 1, 1) := by decide +kernel
theorem dX1_add_101 : decode cX1_add 101 = .ok (.iadd, 1) := by decide +kernel
theorem dX1_add_102 : decode cX1_add 102 = .ok (.putfield 19, 3) := by decide +kernel
theorem dX1_add_105 : decode cX1_add 105 = .ok (.return_, 1) := by decide +kernel
theorem dX2_init_0 : decode cX2_init 0 = .ok (.aload_n 0, 1) := by decide +kernel
theorem dX2_init_1 : decode cX2_init 1 = .ok (.invokespecial 3, 3) := by decide +kernel
theorem dX2_init_4 : decode cX2_init 4 = .ok (.aload_n 0, 1) := by decide +kernel
theorem dX2_init_5 : decode cX2_init 5 = .ok (.bipush 12, 2) := by decide +kernel
theorem dX2_init_7 : decode cX2_init 7 = .ok (.bipush 16, 2) := by decide +kernel
theorem dX2_init_9 : decode cX2_init 9 = .ok (.multianewarray 9 2, 4) := by decide +kernel
theorem dX2_init_13 : decode cX2_init 13 = .ok (.putfield 11, 3) := by decide +kernel
theorem dX2_init_16 : decode cX2_init 16 = .ok (.aload_n 0, 1) := by decide +kernel
theorem dX2_init_17 : decode cX2_init 17 = .ok (.bipush 16, 2) := by decide +kernel
theorem dX2_init_19 : decode cX2_init 19 = .ok (.bipush 16, 2) := by decide +kernel
theorem dX2_init_21 : decode cX2_init 21 = .ok (.multianewarray 9 2, 4) := by decide +kernel
theorem dX2_init_25 : decode cX2_init 25 = .ok (.putfield 16, 3) := by decide +kernel
theorem dX2_init_28 : decode cX2_init 28 = .ok (.return_, 1) := by decide +kernel
theorem dX2_at_0 : decode cX2_at 0 = .ok (.aload_n 0, 1) := by decide +kernel
theorem dX2_at_1 : decode cX2_at 1 = .ok (.getfield 11, 3) := by decide +kernel
theorem dX2_at_4 : decode cX2_at 4 = .ok (.iload_n 1, 1) := by decide +kernel
theorem dX2_at_5 : decode cX2_at 5 = .ok (.aaload, 1) := by decide +kernel
theorem dX2_at_6 : decode cX2_at 6 = .ok (.iload_n 2, 1) := by decide +kernel
theorem dX2_at_7 : decode cX2_at 7 = .ok (.iaload, 1) := by decide +kernel
theorem dX2_at_8 : decode cX2_at 8 = .ok (.ireturn, 1) := by decide +kernel
theorem dX2_set_0 : decode cX2_set 0 = .ok (.aload_n 0, 1) := by decide +kernel
theorem dX2_set_1 : decode cX2_set 1 = .ok (.getfield 11, 3) := by decide +kernel
theorem dX2_set_4 : decode cX2_set 4 = .ok (.iload_n 1, 1) := by decide +kernel
theorem dX2_set_5 : decode cX2_set 5 = .ok (.aaload, 1) := by decide +kernel
theorem dX2_set_6 : decode cX2_set 6 = .ok (.astore 4, 2) := by decide +kernel
theorem dX2_set_8 : decode cX2_set 8 = .ok (.aload 4, 2) := by decide +kernel
theorem dX2_set_10 : decode cX2_set 10 = .ok (.iload_n 2, 1) := by decide +kernel
theorem dX2_set_11 : decode cX2_set 11 = .ok (.iaload, 1) := by decide +kernel
theorem dX2_set_12 : decode cX2_set 12 = .ok (.istore 5, 2) := by decide +kernel
theorem dX2_set_14 : decode cX2_set 14 = .ok (.iconst 0, 1) := by decide +kernel
theorem dX2_set_15 : decode cX2_set 15 = .ok (.istore 6, 2) := by decide +kernel
theorem dX2_set_17 : decode cX2_set 17 = .ok (.iload 6, 2) := by decide +kernel
theorem dX2_set_19 : decode cX2_set 19 = .ok (.bipush 16, 2) := by decide +kernel
theorem dX2_set_21 : decode cX2_set 21 = .ok (.if_icmp .ge 55, 3) := by decide +kernel
theorem dX2_set_24 : decode cX2_set 24 = .ok (.iload 6, 2) := by decide +kernel
theorem dX2_set_26 : decode cX2_set 26 = .ok (.iload_n 2, 1) := by decide +kernel
theorem dX2_set_27 : decode cX2_set 27 = .ok (.if_icmp .eq 43, 3) := by decide +kernel
theorem dX2_set_30 : decode cX2_set 30 = .ok (.aload_n 0, 1) := by decide +kernel
theorem dX2_set_31 : decode cX2_set 31 = .ok (.getfield 16, 3) := by decide +kernel
theorem dX2_set_34 : decode cX2_set 34 = .ok (.iload_n 2, 1) := by decide +kernel
theorem dX2_set_35 : decode cX2_set 35 = .ok (.aaload, 1) := by decide +kernel
theorem dX2_set_36 : decode cX2_set 36 = .ok (.iload 6, 2) := by decide +kernel
theorem dX2_set_38 : decode cX2_set 38 = .ok (.dup2, 1) := by decide +kernel
theorem dX2_set_39 : decode cX2_set 39 = .ok (.iaload, 1) := by decide +kernel
theorem dX2_set_40 : decode cX2_set 40 = .ok (.iload_n 3, 1) := by decide +kernel
theorem dX2_set_41 : decode cX2_set 41 = .ok (.iload 5, 2) := by decide +kernel
theorem dX2_set_43 : decode cX2_set 43 = .ok (.isub, 1) := by decide +kernel
theorem dX2_set_44 : decode cX2_set 44 = .ok (.aload 4, 2) := by decide +kernel
theorem dX2_set_46 : decode cX2_set 46 = .ok (.iload 6, 2) := by decide +kernel
theorem dX2_set_48 : decode cX2_set 48 = .ok (.iaload, 1) := by decide +kernel
theorem dX2_set_49 : decode cX2_set 49 = .ok (.imul, 1) := by decide +kernel
theorem dX2_set_50 : decode cX2_set 50 = .ok (.iadd, 1) := by decide +kernel
theorem dX2_set_51 : decode cX2_set 51 = .ok (.iastore, 1) := by decide +kernel
theorem dX2_set_52 : decode cX2_set 52 = .ok (.aload_n 0, 1) := by decide +kernel
theorem dX2_set_53 : decode cX2_set 53 = .ok (.getfield 16, 3) := by decide +kernel
theorem dX2_set_56 : decode cX2_set 56 = .ok (.iload 6, 2) := by decide +kernel
theorem dX2_set_58 : decode cX2_set 58 = .ok (.aaload, 1) := by decide +kernel
theorem dX2_set_59 : decode cX2_set 59 = .ok (.iload_n 2, 1) := by decide +kernel
theorem dX2_set_60 : decode cX2_set 60 = .ok (.aload_n 0, 1) := by decide +kernel
theorem dX2_set_61 : decode cX2_set 61 = .ok (.getfield 16, 3) := by decide +kernel
theorem dX2_set_64 : decode cX2_set 64 = .ok (.iload_n 2, 1) := by decide +kernel
theorem dX2_set_65 : decode cX2_set 65 = .ok (.aaload, 1) := by decide +kernel
theorem dX2_set_66 : decode cX2_set 66 = .ok (.iload 6, 2) := by decide +kernel
theorem dX2_set_68 : decode cX2_set 68 = .ok (.iaload, 1) := by decide +kernel
theorem dX2_set_69 : decode cX2_set 69 = .ok (.iastore, 1) := by decide +kernel
theorem dX2_set_70 : decode cX2_set 70 = .ok (.iinc 6 1, 3) := by decide +kernel
theorem dX2_set_73 : decode cX2_set 73 = .ok (.goto (-56), 3) := by decide +kernel
theorem dX2_set_76 : decode cX2_set 76 = .ok (.aload_n 0, 1) := by decide +kernel
theorem dX2_set_77 : decode cX2_set 77 = .ok (.getfield 16, 3) := by decide +kernel
theorem dX2_set_80 : decode cX2_set 80 = .ok (.iload_n 2, 1) := by decide +kernel
theorem dX2_set_81 : decode cX2_set 81 = .ok (.aaload, 1) := by decide +kernel
theorem dX2_set_82 : decode cX2_set 82 = .ok (.iload_n 2, 1) := by decide +kernel
theorem dX2_set_83 : decode cX2_set 83 = .ok (.dup2, 1) := by decide +kernel
theorem dX2_set_84 : decode cX2_set 84 = .ok (.iaload, 1) := by decide +kernel
theorem dX2_set_85 : decode cX2_set 85 = .ok (.iload_n 3, 1) := by decide +kernel
theorem dX2_set_86 : decode cX2_set 86 = .ok (.iload_n 3, 1) := by decide +kernel
theorem dX2_set_87 : decode cX2_set 87 = .ok (.imul, 1) := by decide +kernel
theorem dX2_set_88 : decode cX2_set 88 = .ok (.iload 5, 2) := by decide +kernel
theorem dX2_set_90 : decode cX2_set 90 = .ok (.iload 5, 2) := by decide +kernel
theorem dX2_set_92 : decode cX2_set 92 = .ok (.imul, 1) := by decide +kernel
theorem dX2_set_93 : decode cX2_set 93 = .ok (.isub, 1) := by decide +kernel
theorem dX2_set_94 : decode cX2_set 94 = .ok (.iadd, 1) := by decide +kernel
theorem dX2_set_95 : decode cX2_set 95 = .ok (.iastore, 1) := by decide +kernel
theorem dX2_set_96 : decode cX2_set 96 = .ok (.aload 4, 2) := by decide +kernel
theorem dX2_set_98 : decode cX2_set 98 = .ok (.iload_n 2, 1) := by decide +kernel
theorem dX2_set_99 : decode cX2_set 99 = .ok (.iload_n 3, 1) := by decide +kernel
theorem dX2_set_100 : decode cX2_set 100 = .ok (.iastore, 1) := by decide +kernel
theorem dX2_set_101 : decode cX2_set 101 = .ok (.return_, 1) := by decide +kernel
set_option maxRecDepth 20000 in
theorem ggX2_clear_X2_set : GoodIn wsX2_clear wsX2_set := goodIn_r _ [5, 6, 7, 8, 9] (by decide +kernel) (by decide +kernel)
set_option maxRecDepth 20000 in
theorem gX2_clear_X2_set : GoodIn wsX2_clear (wsV RX2 19 RX2 yX2_set wsX2_set) := goodIn_app (goodIn_of _ (by decide +kernel)) ggX2_clear_X2_set
theorem dX2_clear_0 : decode cX2_clear 0 = .ok (.iconst 0, 1) := by decide +kernel
theorem dX2_clear_1 : decode cX2_clear 1 = .ok (.istore_n 1, 1) := by decide +kernel
theorem dX2_clear_2 : decode cX2_clear 2 = .ok (.iload_n 1, 1) := by decide +kernel
theorem dX2_clear_3 : decode cX2_clear 3 = .ok (.bipush 12, 2) := by decide +kernel
theorem dX2_clear_5 : decode cX2_clear 5 = .ok (.if_icmp .ge 30, 3) := by decide +kernel
theorem dX2_clear_8 : decode cX2_clear 8 = .ok (.iconst 0, 1) := by decide +kernel
theorem dX2_clear_9 : decode cX2_clear 9 = .ok (.istore_n 2, 1) := by decide +kernel
theorem dX2_clear_10 : decode cX2_clear 10 = .ok (.iload_n 2, 1) := by decide +kernel
theorem dX2_clear_11 : decode cX2_clear 11 = .ok (.bipush 16, 2) := by decide +kernel
theorem dX2_clear_13 : decode cX2_clear 13 = .ok (.if_icmp .ge 16, 3) := by decide +kernel
theorem dX2_clear_16 : decode cX2_clear 16 = .ok (.aload_n 0, 1) := by decide +kernel
theorem dX2_clear_17 : decode cX2_clear 17 = .ok (.iload_n 1, 1) := by decide +kernel
theorem dX2_clear_18 : decode cX2_clear 18 = .ok (.iload_n 2, 1) := by decide +kernel
theorem dX2_clear_19 : decode cX2_clear 19 = .ok (.iconst 0, 1) := by decide +kernel
theorem dX2_clear_20 : decode cX2_clear 20 = .ok (.invokevirtual 19, 3) := by decide +kernel
theorem dX2_clear_23 : decode cX2_clear 23 = .ok (.iinc 2 1, 3) := by decide +kernel
theorem dX2_clear_26 : decode cX2_clear 26 = .ok (.goto (-16), 3) := by decide +kernel
theorem dX2_clear_29 : decode cX2_clear 29 = .ok (.iinc 1 1, 3) := by decide +kernel
theorem dX2_clear_32 : decode cX2_clear 32 = .ok (.goto (-30), 3) := by decide +kernel
theorem dX2_clear_35 : decode cX2_clear 35 = .ok (.return_, 1) := by decide +kernel
theorem dX2_countRated_0 : decode cX2_countRated 0 = .ok (.iconst 0, 1) := by decide +kernel
theorem dX2_countRated_1 : decode cX2_countRated 1 = .ok (.istore_n 1, 1) := by decide +kernel
theorem dX2_countRated_2 : decode cX2_countRated 2 = .ok (.iconst 0, 1) := by decide +kernel
theorem dX2_countRated_3 : decode cX2_countRated 3 = .ok (.istore_n 2, 1) := by decide +kernel
theorem dX2_countRated_4 : decode cX2_countRated 4 = .ok (.iload_n 2, 1) := by decide +kernel
theorem dX2_countRated_5 : decode cX2_countRated 5 = .ok (.bipush 12, 2) := by decide +kernel
theorem dX2_countRated_7 : decode cX2_countRated 7 = .ok (.if_icmp .ge 37, 3) := by decide +kernel
theorem dX2_countRated_10 : decode cX2_countRated 10 = .ok (.iconst 0, 1) := by decide +kernel
theorem dX2_countRated_11 : decode cX2_countRated 11 = .ok (.istore_n 3, 1) := by decide +kernel
theorem dX2_countRated_12 : decode cX2_countRated 12 = .ok (.iload_n 3, 1) := by decide +kernel
theorem dX2_countRated_13 : decode cX2_countRated 13 = .ok (.bipush 16, 2) := by decide +kernel
theorem dX2_countRated_15 : decode cX2_countRated 15 = .ok (.if_icmp .ge 23, 3) := by decide +kernel
theorem dX2_countRated_18 : decode cX2_countRated 18 = .ok (.aload_n 0, 1) := by decide +kernel
theorem dX2_countRated_19 : decode cX2_countRated 19 = .ok (.getfield 11, 3) := by decide +kernel
theorem dX2_countRated_22 : decode cX2_countRated 22 = .ok (.iload_n 2, 1) := by decide +kernel
theorem dX2_countRated_23 : decode cX2_countRated 23 = .ok (.aaload, 1) := by decide +kernel
theorem dX2_countRated_24 : decode cX2_countRated 24 = .ok (.iload_n 3, 1) := by decide +kernel
theorem dX2_countRated_25 : decode cX2_countRated 25 = .ok (.iaload, 1) := by decide +kernel
theorem dX2_countRated_26 : decode cX2_countRated 26 = .ok (.ifCond .eq 6, 3) := by decide +kernel
theorem dX2_countRated_29 : decode cX2_countRated 29 = .ok (.iinc 1 1, 3) := by decide +kernel
theorem dX2_countRated_32 : decode cX2_countRated 32 = .ok (.iinc 3 1, 3) := by decide +kernel
theorem dX2_countRated_35 : decode cX2_countRated 35 = .ok (.goto (-23), 3) := by decide +kernel
theorem dX2_countRated_38 : decode cX2_countRated 38 = .ok (.iinc 2 1, 3) := by decide +kernel
theorem dX2_countRated_41 : decode cX2_countRated 41 = .ok (.goto (-37), 3) := by decide +kernel
theorem dX2_countRated_44 : decode cX2_countRated 44 = .ok (.iload_n 1, 1) := by decide +kernel
theorem dX2_countRated_45 : decode cX2_countRated 45 = .ok (.ireturn, 1) := by decide +kernel
theorem dX2_weightOf_0 : decode cX2_weightOf 0 = .ok (.aload_n 0, 1) := by decide +kernel
theorem dX2_weightOf_1 : decode cX2_weightOf 1 = .ok (.getfield 16, 3) := by decide +kernel
theorem dX2_weightOf_4 : decode cX2_weightOf 4 = .ok (.iload_n 1, 1) := by decide +kernel
theorem dX2_weightOf_5 : decode cX2_weightOf 5 = .ok (.aaload, 1) := by decide +kernel
theorem dX2_weightOf_6 : decode cX2_weightOf 6 = .ok (.iload_n 2, 1) := by decide +kernel
theorem dX2_weightOf_7 : decode cX2_weightOf 7 = .ok (.iaload, 1) := by decide +kernel
theorem dX2_weightOf_8 : decode cX2_weightOf 8 = .ok (.i2l, 1) := by decide +kernel
theorem dX2_weightOf_9 : decode cX2_weightOf 9 = .ok (.lstore_n 3, 1) := by decide +kernel
theorem dX2_weightOf_10 : decode cX2_weightOf 10 = .ok (.aload_n 0, 1) := by decide +kernel
theorem dX2_weightOf_11 : decode cX2_weightOf 11 = .ok (.getfield 16, 3) := by decide +kernel
theorem dX2_weightOf_14 : decode cX2_weightOf 14 = .ok (.iload_n 1, 1) := by decide +kernel
theorem dX2_weightOf_15 : decode cX2_weightOf 15 = .ok (.aaload, 1) := by decide +kernel
theorem dX2_weightOf_16 : decode cX2_weightOf 16 = .ok (.iload_n 1, 1) := by decide +kernel
theorem dX2_weightOf_17 : decode cX2_weightOf 17 = .ok (.iaload, 1) := by decide +kernel
theorem dX2_weightOf_18 : decode cX2_weightOf 18 = .ok (.i2l, 1) := by decide +kernel
theorem dX2_weightOf_19 : decode cX2_weightOf 19 = .ok (.aload_n 0, 1) := by decide +kernel
theorem dX2_weightOf_20 : decode cX2_weightOf 20 = .ok (.getfield 16, 3) := by decide +kernel
theorem dX2_weightOf_23 : decode cX2_weightOf 23 = .ok (.iload_n 2, 1) := by decide +kernel
theorem dX2_weightOf_24 : decode cX2_weightOf 24 = .ok (.aaload, 1) := by decide +kernel
theorem dX2_weightOf_25 : decode cX2_weightOf 25 = .ok (.iload_n 2, 1) := by decide +kernel
theorem dX2_weightOf_26 : decode cX2_weightOf 26 = .ok (.iaload, 1) := by decide +kernel
theorem dX2_weightOf_27 : decode cX2_weightOf 27 = .ok (.i2l, 1) := by decide +kernel
theorem dX2_weightOf_28 : decode cX2_weightOf 28 = .ok (.lmul, 1) := by decide +kernel
theorem dX2_weightOf_29 : decode cX2_weightOf 29 = .ok (.lstore 5, 2) := by decide +kernel
theorem dX2_weightOf_31 : decode cX2_weightOf 31 = .ok (.iload_n 1, 1) := by decide +kernel
theorem dX2_weightOf_32 : decode cX2_weightOf 32 = .ok (.iload_n 2, 1) := by decide +kernel
theorem dX2_weightOf_33 : decode cX2_weightOf 33 = .ok (.if_icmp .eq 10, 3) := by decide +kernel
theorem dX2_weightOf_36 : decode cX2_weightOf 36 = .ok (.lload 5, 2) := by decide +kernel
theorem dX2_weightOf_38 : decode cX2_weightOf 38 = .ok (.lconst 0, 1) := by decide +kernel
theorem dX2_weightOf_39 : decode cX2_weightOf 39 = .ok (.lcmp, 1) := by decide +kernel
theorem dX2_weightOf_40 : decode cX2_weightOf 40 = .ok (.ifCond .ne 5, 3) := by decide +kernel
theorem dX2_weightOf_43 : decode cX2_weightOf 43 = .ok (.iconst 0, 1) := by decide +kernel
theorem dX2_weightOf_44 : decode cX2_weightOf 44 = .ok (.ireturn, 1) := by decide +kernel
theorem dX2_weightOf_45 : decode cX2_weightOf 45 = .ok (.ldc2_w 23, 3) := by decide +kernel
theorem dX2_weightOf_48 : decode cX2_weightOf 48 = .ok (.lload_n 3, 1) := by decide +kernel
theorem dX2_weightOf_49 : decode cX2_weightOf 49 = .ok (.lmul, 1) := by decide +kernel
theorem dX2_weightOf_50 : decode cX2_weightOf 50 = .ok (.lload_n 3, 1) := by decide +kernel
theorem dX2_weightOf_51 : decode cX2_weightOf 51 = .ok (.lmul, 1) := by decide +kernel
theorem dX2_weightOf_52 : decode cX2_weightOf 52 = .ok (.lload 5, 2) := by decide +kernel
theorem dX2_weightOf_54 : decode cX2_weightOf 54 = .ok (.ldiv, 1) := by decide +kernel
theorem dX2_weightOf_55 : decode cX2_weightOf 55 = .ok (.l2i, 1) := by decide +kernel
theorem dX2_weightOf_56 : decode cX2_weightOf 56 = .ok (.ireturn, 1) := by decide +kernel
set_option maxRecDepth 20000 in
theorem ggX2_shareOf_X2_weightOf : GoodIn wsX2_shareOf wsX2_weightOf := goodIn_r _ [6, 7, 8, 9, 10] (by decide +kernel) (by decide +kernel)
set_option maxRecDepth 20000 in
theorem gX2_shareOf_X2_weightOf : GoodIn wsX2_shareOf (wsV RX2 25 RX2 yX2_weightOf wsX2_weightOf) := goodIn_app (goodIn_of _ (by decide +kernel)) ggX2_shareOf_X2_weightOf
theorem dX2_shareOf_0 : decode cX2_shareOf 0 = .ok (.aload_n 0, 1) := by decide +kernel
theorem dX2_shareOf_1 : decode cX2_shareOf 1 = .ok (.iload_n 2, 1) := by decide +kernel
theorem dX2_shareOf_2 : decode cX2_shareOf 2 = .ok (.iload_n 3, 1) := by decide +kernel
theorem dX2_shareOf_3 : decode cX2_shareOf 3 = .ok (.invokevirtual 25, 3) := by decide +kernel
theorem dX2_shareOf_6 : decode cX2_shareOf 6 = .ok (.i2l, 1) := by decide +kernel
theorem dX2_shareOf_7 : decode cX2_shareOf 7 = .ok (.aload_n 0, 1) := by decide +kernel
theorem dX2_shareOf_8 : decode cX2_shareOf 8 = .ok (.getfield 11, 3) := by decide +kernel
theorem dX2_shareOf_11 : decode cX2_shareOf 11 = .ok (.iload_n 1, 1) := by decide +kernel
theorem dX2_shareOf_12 : decode cX2_shareOf 12 = .ok (.aaload, 1) := by decide +kernel
theorem dX2_shareOf_13 : decode cX2_shareOf 13 = .ok (.iload_n 3, 1) := by decide +kernel
theorem dX2_shareOf_14 : decode cX2_shareOf 14 = .ok (.iaload, 1) := by decide +kernel
theorem dX2_shareOf_15 : decode cX2_shareOf 15 = .ok (.i2l, 1) := by decide +kernel
theorem dX2_shareOf_16 : decode cX2_shareOf 16 = .ok (.lmul, 1) := by decide +kernel
theorem dX2_shareOf_17 : decode cX2_shareOf 17 = .ok (.lreturn, 1) := by decide +kernel
set_option maxRecDepth 20000 in
theorem ggX2_scoreOf_X2_shareOf : GoodIn wsX2_scoreOf wsX2_shareOf := goodIn_r _ [5, 6, 7, 8, 9, 4, 10, 11, 12, 13, 14] (by decide +kernel) (by decide +kernel)
set_option maxRecDepth 20000 in
theorem gX2_scoreOf_X2_shareOf : GoodIn wsX2_scoreOf (wsV RX2 29 RX2 yX2_shareOf wsX2_shareOf) := goodIn_app (goodIn_of _ (by decide +kernel)) ggX2_scoreOf_X2_shareOf
theorem dX2_scoreOf_0 : decode cX2_scoreOf 0 = .ok (.lconst 0, 1) := by decide +kernel
theorem dX2_scoreOf_1 : decode cX2_scoreOf 1 = .ok (.lstore_n 3, 1) := by decide +kernel
theorem dX2_scoreOf_2 : decode cX2_scoreOf 2 = .ok (.iconst 0, 1) := by decide +kernel
theorem dX2_scoreOf_3 : decode cX2_scoreOf 3 = .ok (.istore 5, 2) := by decide +kernel
theorem dX2_scoreOf_5 : decode cX2_scoreOf 5 = .ok (.iload 5, 2) := by decide +kernel
theorem dX2_scoreOf_7 : decode cX2_scoreOf 7 = .ok (.bipush 16, 2) := by decide +kernel
theorem dX2_scoreOf_9 : decode cX2_scoreOf 9 = .ok (.if_icmp .ge 20, 3) := by decide +kernel
theorem dX2_scoreOf_12 : decode cX2_scoreOf 12 = .ok (.lload_n 3, 1) := by decide +kernel
theorem dX2_scoreOf_13 : decode cX2_scoreOf 13 = .ok (.aload_n 0, 1) := by decide +kernel
theorem dX2_scoreOf_14 : decode cX2_scoreOf 14 = .ok (.iload_n 1, 1) := by decide +kernel
theorem dX2_scoreOf_15 : decode cX2_scoreOf 15 = .ok (.iload_n 2, 1) := by decide +kernel
theorem dX2_scoreOf_16 : decode cX2_scoreOf 16 = .ok (.iload 5, 2) := by decide +kernel
theorem dX2_scoreOf_18 : decode cX2_scoreOf 18 = .ok (.invokevirtual 29, 3) := by decide +kernel
theorem dX2_scoreOf_21 : decode cX2_scoreOf 21 = .ok (.ladd, 1) := by decide +kernel
theorem dX2_scoreOf_22 : decode cX2_scoreOf 22 = .ok (.lstore_n 3, 1) := by decide +kernel
theorem dX2_scoreOf_23 : decode cX2_scoreOf 23 = .ok (.iinc 5 1, 3) := by decide +kernel
theorem dX2_scoreOf_26 : decode cX2_scoreOf 26 = .ok (.goto (-21), 3) := by decide +kernel
theorem dX2_scoreOf_29 : decode cX2_scoreOf 29 = .ok (.lload_n 3, 1) := by decide +kernel
theorem dX2_scoreOf_30 : decode cX2_scoreOf 30 = .ok (.lreturn, 1) := by decide +kernel
theorem dX2_packed_0 : decode cX2_packed 0 = .ok (.iconst 0, 1) := by decide +kernel
theorem dX2_packed_1 : decode cX2_packed 1 = .ok (.istore_n 3, 1) := by decide +kernel
theorem dX2_packed_2 : decode cX2_packed 2 = .ok (.iconst 0, 1) := by decide +kernel
theorem dX2_packed_3 : decode cX2_packed 3 = .ok (.istore 4, 2) := by decide +kernel
theorem dX2_packed_5 : decode cX2_packed 5 = .ok (.iload 4, 2) := by decide +kernel
theorem dX2_packed_7 : decode cX2_packed 7 = .ok (.bipush 8, 2) := by decide +kernel
theorem dX2_packed_9 : decode cX2_packed 9 = .ok (.if_icmp .ge 31, 3) := by decide +kernel
theorem dX2_packed_12 : decode cX2_packed 12 = .ok (.iload_n 3, 1) := by decide +kernel
theorem dX2_packed_13 : decode cX2_packed 13 = .ok (.aload_n 0, 1) := by decide +kernel
theorem dX2_packed_14 : decode cX2_packed 14 = .ok (.getfield 11, 3) := by decide +kernel
theorem dX2_packed_17 : decode cX2_packed 17 = .ok (.iload_n 1, 1) := by decide +kernel
theorem dX2_packed_18 : decode cX2_packed 18 = .ok (.aaload, 1) := by decide +kernel
theorem dX2_packed_19 : decode cX2_packed 19 = .ok (.bipush 8, 2) := by decide +kernel
theorem dX2_packed_21 : decode cX2_packed 21 = .ok (.iload_n 2, 1) := by decide +kernel
theorem dX2_packed_22 : decode cX2_packed 22 = .ok (.imul, 1) := by decide +kernel
theorem dX2_packed_23 : decode cX2_packed 23 = .ok (.iload 4, 2) := by decide +kernel
theorem dX2_packed_25 : decode cX2_packed 25 = .ok (.iadd, 1) := by decide +kernel
theorem dX2_packed_26 : decode cX2_packed 26 = .ok (.iaload, 1) := by decide +kernel
theorem dX2_packed_27 : decode cX2_packed 27 = .ok (.iconst 4, 1) := by decide +kernel
theorem dX2_packed_28 : decode cX2_packed 28 = .ok (.iload 4, 2) := by decide +kernel
theorem dX2_packed_30 : decode cX2_packed 30 = .ok (.imul, 1) := by decide +kernel
theorem dX2_packed_31 : decode cX2_packed 31 = .ok (.ishl, 1) := by decide +kernel
theorem dX2_packed_32 : decode cX2_packed 32 = .ok (.iadd, 1) := by decide +kernel
theorem dX2_packed_33 : decode cX2_packed 33 = .ok (.istore_n 3, 1) := by decide +kernel
theorem dX2_packed_34 : decode cX2_packed 34 = .ok (.iinc 4 1, 3) := by decide +kernel
theorem dX2_packed_37 : decode cX2_packed 37 = .ok (.goto (-32), 3) := by decide +kernel
theorem dX2_packed_40 : decode cX2_packed 40 = .ok (.iload_n 3, 1) := by decide +kernel
theorem dX2_packed_41 : decode cX2_packed 41 = .ok (.ireturn, 1) := by decide +kernel
set_option maxRecDepth 20000 in
theorem ggX2_unpack_X2_set : GoodIn wsX2_unpack wsX2_set := goodIn_r _ [5, 6, 7, 8, 9] (by decide +kernel) (by decide +kernel)
set_option maxRecDepth 20000 in
theorem gX2_unpack_X2_set : GoodIn wsX2_unpack (wsV RX2 19 RX2 yX2_set wsX2_set) := goodIn_app (goodIn_of _ (by decide +kernel)) ggX2_unpack_X2_set
theorem dX2_unpack_0 : decode cX2_unpack 0 = .ok (.iconst 0, 1) := by decide +kernel
theorem dX2_unpack_1 : decode cX2_unpack 1 = .ok (.istore 4, 2) := by decide +kernel
theorem dX2_unpack_3 : decode cX2_unpack 3 = .ok (.iload 4, 2) := by decide +kernel
theorem dX2_unpack_5 : decode cX2_unpack 5 = .ok (.bipush 8, 2) := by decide +kernel
theorem dX2_unpack_7 : decode cX2_unpack 7 = .ok (.if_icmp .ge 44, 3) := by decide +kernel
theorem dX2_unpack_10 : decode cX2_unpack 10 = .ok (.iload_n 3, 1) := by decide +kernel
theorem dX2_unpack_11 : decode cX2_unpack 11 = .ok (.iconst 4, 1) := by decide +kernel
theorem dX2_unpack_12 : decode cX2_unpack 12 = .ok (.iload 4, 2) := by decide +kernel
theorem dX2_unpack_14 : decode cX2_unpack 14 = .ok (.imul, 1) := by decide +kernel
theorem dX2_unpack_15 : decode cX2_unpack 15 = .ok (.iushr, 1) := by decide +kernel
theorem dX2_unpack_16 : decode cX2_unpack 16 = .ok (.bipush 15, 2) := by decide +kernel
theorem dX2_unpack_18 : decode cX2_unpack 18 = .ok (.iand, 1) := by decide +kernel
theorem dX2_unpack_19 : decode cX2_unpack 19 = .ok (.istore 5, 2) := by decide +kernel
theorem dX2_unpack_21 : decode cX2_unpack 21 = .ok (.aload_n 0, 1) := by decide +kernel
theorem dX2_unpack_22 : decode cX2_unpack 22 = .ok (.iload_n 1, 1) := by decide +kernel
theorem dX2_unpack_23 : decode cX2_unpack 23 = .ok (.bipush 8, 2) := by decide +kernel
theorem dX2_unpack_25 : decode cX2_unpack 25 = .ok (.iload_n 2, 1) := by decide +kernel
theorem dX2_unpack_26 : decode cX2_unpack 26 = .ok (.imul, 1) := by decide +kernel
theorem dX2_unpack_27 : decode cX2_unpack 27 = .ok (.iload 4, 2) := by decide +kernel
theorem dX2_unpack_29 : decode cX2_unpack 29 = .ok (.iadd, 1) := by decide +kernel
theorem dX2_unpack_30 : decode cX2_unpack 30 = .ok (.iload 5, 2) := by decide +kernel
theorem dX2_unpack_32 : decode cX2_unpack 32 = .ok (.iconst 5, 1) := by decide +kernel
theorem dX2_unpack_33 : decode cX2_unpack 33 = .ok (.if_icmp .le 7, 3) := by decide +kernel
theorem dX2_unpack_36 : decode cX2_unpack 36 = .ok (.iconst 0, 1) := by decide +kernel
theorem dX2_unpack_37 : decode cX2_unpack 37 = .ok (.goto 5, 3) := by decide +kernel
theorem dX2_unpack_40 : decode cX2_unpack 40 = .ok (.iload 5, 2) := by decide +kernel
theorem dX2_unpack_42 : decode cX2_unpack 42 = .ok (.invokevirtual 19, 3) := by decide +kernel
theorem dX2_unpack_45 : decode cX2_unpack 45 = .ok (.iinc 4 1, 3) := by decide +kernel
theorem dX2_unpack_48 : decode cX2_unpack 48 = .ok (.goto (-45), 3) := by decide +kernel
theorem dX2_unpack_51 : decode cX2_unpack 51 = .ok (.return_, 1) := by decide +kernel
set_option maxRecDepth 20000 in
theorem ggX3_init_X1_init : GoodIn wsX3_init wsX1_init := goodIn_r _ [12, 13, 2, 3, 14, 15, 6, 16, 17, 21, 22, 23] (by decide +kernel) (by decide +kernel)
set_option maxRecDepth 20000 in
theorem gX3_init_X1_init_n25 : GoodIn wsX3_init (wsX1_init) := ggX3_init_X1_init
theorem dX3_init_0 : decode cX3_init 0 = .ok (.aload_n 0, 1) := by decide +kernel
theorem dX3_init_1 : decode cX3_init 1 = .ok (.invokespecial 3, 3) := by decide +kernel
theorem dX3_init_4 : decode cX3_init 4 = .ok (.aload_n 0, 1) := by decide +kernel
theorem dX3_init_5 : decode cX3_init 5 = .ok (.bipush 16, 2) := by decide +kernel
theorem dX3_init_7 : decode cX3_init 7 = .ok (.anewarray 9, 3) := by decide +kernel
theorem dX3_init_10 : decode cX3_init 10 = .ok (.putfield 11, 3) := by decide +kernel
theorem dX3_init_13 : decode cX3_init 13 = .ok (.aload_n 0, 1) := by decide +kernel
theorem dX3_init_14 : decode cX3_init 14 = .ok (.bipush 16, 2) := by decide +kernel
theorem dX3_init_16 : decode cX3_init 16 = .ok (.newarray .long, 2) := by decide +kernel
theorem dX3_init_18 : decode cX3_init 18 = .ok (.putfield 17, 3) := by decide +kernel
theorem dX3_init_21 : decode cX3_init 21 = .ok (.aload_n 0, 1) := by decide +kernel
theorem dX3_init_22 : decode cX3_init 22 = .ok (.iconst 0, 1) := by decide +kernel
theorem dX3_init_23 : decode cX3_init 23 = .ok (.putfield 21, 3) := by decide +kernel
theorem dX3_init_26 : decode cX3_init 26 = .ok (.iconst 0, 1) := by decide +kernel
theorem dX3_init_27 : decode cX3_init 27 = .ok (.istore_n 1, 1) := by decide +kernel
theorem dX3_init_28 : decode cX3_init 28 = .ok (.iload_n 1, 1) := by decide +kernel
theorem dX3_init_29 : decode cX3_init 29 = .ok (.bipush 16, 2) := by decide +kernel
theorem dX3_init_31 : decode cX3_init 31 = .ok (.if_icmp .ge 22, 3) := by decide +kernel
theorem dX3_init_34 : decode cX3_init 34 = .ok (.aload_n 0, 1) := by decide +kernel
theorem dX3_init_35 : decode cX3_init 35 = .ok (.getfield 11, 3) := by decide +kernel
theorem dX3_init_38 : decode cX3_init 38 = .ok (.iload_n 1, 1) := by decide +kernel
theorem dX3_init_39 : decode cX3_init 39 = .ok (.new 9, 3) := by decide +kernel
theorem dX3_init_42 : decode cX3_init 42 = .ok (.dup, 1) := by decide +kernel
theorem dX3_init_43 : decode cX3_init 43 = .ok (.invokespecial 25, 3) := by decide +kernel
theorem dX3_init_46 : decode cX3_init 46 = .ok (.aastore, 1) := by decide +kernel
theorem dX3_init_47 : decode cX3_init 47 = .ok (.iinc 1 1, 3) := by decide +kernel
theorem dX3_init_50 : decode cX3_init 50 = .ok (.goto (-22), 3) := by decide +kernel
theorem dX3_init_53 : decode cX3_init 53 = .ok (.return_, 1) := by decide +kernel
set_option maxRecDepth 20000 in
theorem ggX3_countEntries_X3_begin : GoodIn wsX3_countEntries wsX3_begin := goodIn_r _ [6, 1, 7, 8, 9, 10, 11, 12, 13, 14, 15, 16, 17, 18, 19, 20, 21, 22, 23, 24, 25, 26, 27, 28, 29, 30, 31, 32, 33, 34, 35, 36, 37, 76, 77, 78, 79, 80, 81, 82, 83] (by decide +kernel) (by decide +kernel)
set_option maxRecDepth 20000 in
theorem gX3_countEntries_X3_begin : GoodIn wsX3_countEntries (wsV RX3 26 RX3 yX3_begin wsX3_begin) := goodIn_app (goodIn_of _ (by decide +kernel)) ggX3_countEntries_X3_begin
set_option maxRecDepth 20000 in
theorem ggX3_countEntries_X3_isEntryLeft : GoodIn wsX3_countEntries wsX3_isEntryLeft := goodIn_r _ [41, 8, 42, 43, 44, 12, 45, 14, 76, 77, 78, 79, 80, 81] (by decide +kernel) (by decide +kernel)
set_option maxRecDepth 20000 in
theorem gX3_countEntries_X3_isEntryLeft : GoodIn wsX3_countEntries (wsV RX3 30 RX3 yX3_isEntryLeft wsX3_isEntryLeft) := goodIn_app (goodIn_of _ (by decide +kernel)) ggX3_countEntries_X3_isEntryLeft
set_option maxRecDepth 20000 in
theorem ggX3_countEntries_X3_readRound : GoodIn wsX3_countEntries wsX3_readRound := goodIn_r _ [49, 8, 1, 42, 43, 44, 12, 45, 14, 15, 16, 17, 18, 19, 20, 50, 51, 52, 53, 36, 54, 55, 56, 57, 58, 37, 59, 60, 61, 5, 62, 7, 63, 64, 65, 66, 67, 68, 69, 70, 71, 27, 28, 29, 30, 31, 76, 77, 78, 79, 80, 81, 82, 83] (by decide +kernel) (by decide +kernel)
set_option maxRecDepth 20000 in
theorem gX3_countEntries_X3_readRound : GoodIn wsX3_countEntries (wsV RX3 34 RX3 yX3_readRound wsX3_readRound) := goodIn_app (goodIn_of _ (by decide +kernel)) ggX3_countEntries_X3_readRound
set_option maxRecDepth 20000 in
theorem ggX3_countEntries_X3_countFoundAbove : GoodIn wsX3_countEntries wsX3_countFoundAbove := goodIn_r _ [75, 7, 76, 77, 78] (by decide +kernel) (by decide +kernel)
set_option maxRecDepth 20000 in
theorem gX3_countEntries_X3_countFoundAbove : GoodIn wsX3_countEntries (wsV RX3 38 RX3 yX3_countFoundAbove wsX3_countFoundAbove) := goodIn_app (goodIn_of _ (by decide +kernel)) ggX3_countEntries_X3_countFoundAbove
theorem dX3_countEntries_0 : decode cX3_countEntries 0 = .ok (.aload_n 0, 1) := by decide +kernel
theorem dX3_countEntries_1 : decode cX3_countEntries 1 = .ok (.aload_n 1, 1) := by decide +kernel
theorem dX3_countEntries_2 : decode cX3_countEntries 2 = .ok (.iload_n 2, 1) := by decide +kernel
theorem dX3_countEntries_3 : decode cX3_countEntries 3 = .ok (.invokevirtual 26, 3) := by decide +kernel
theorem dX3_countEntries_6 : decode cX3_countEntries 6 = .ok (.iconst 0, 1) := by decide +kernel
theorem dX3_countEntries_7 : decode cX3_countEntries 7 = .ok (.istore 4, 2) := by decide +kernel
theorem dX3_countEntries_9 : decode cX3_countEntries 9 = .ok (.iload 4, 2) := by decide +kernel
theorem dX3_countEntries_11 : decode cX3_countEntries 11 = .ok (.bipush 16, 2) := by decide +kernel
theorem dX3_countEntries_13 : decode cX3_countEntries 13 = .ok (.if_icmp .ge 41, 3) := by decide +kernel
theorem dX3_countEntries_16 : decode cX3_countEntries 16 = .ok (.aload_n 0, 1) := by decide +kernel
theorem dX3_countEntries_17 : decode cX3_countEntries 17 = .ok (.iload 4, 2) := by decide +kernel
theorem dX3_countEntries_19 : decode cX3_countEntries 19 = .ok (.invokevirtual 30, 3) := by decide +kernel
theorem dX3_countEntries_22 : decode cX3_countEntries 22 = .ok (.ifCond .eq 32, 3) := by decide +kernel
theorem dX3_countEntries_25 : decode cX3_countEntries 25 = .ok (.aload_n 0, 1) := by decide +kernel
theorem dX3_countEntries_26 : decode cX3_countEntries 26 = .ok (.aload_n 1, 1) := by decide +kernel
theorem dX3_countEntries_27 : decode cX3_countEntries 27 = .ok (.iload_n 2, 1) := by decide +kernel
theorem dX3_countEntries_28 : decode cX3_countEntries 28 = .ok (.iload 4, 2) := by decide +kernel
theorem dX3_countEntries_30 : decode cX3_countEntries 30 = .ok (.invokevirtual 34, 3) := by decide +kernel
theorem dX3_countEntries_33 : decode cX3_countEntries 33 = .ok (.lstore 5, 2) := by decide +kernel
theorem dX3_countEntries_35 : decode cX3_countEntries 35 = .ok (.aload_n 0, 1) := by decide +kernel
theorem dX3_countEntries_36 : decode cX3_countEntries 36 = .ok (.lload 5, 2) := by decide +kernel
theorem dX3_countEntries_38 : decode cX3_countEntries 38 = .ok (.invokevirtual 38, 3) := by decide +kernel
theorem dX3_countEntries_41 : decode cX3_countEntries 41 = .ok (.iload_n 3, 1) := by decide +kernel
theorem dX3_countEntries_42 : decode cX3_countEntries 42 = .ok (.if_icmp .lt 6, 3) := by decide +kernel
theorem dX3_countEntries_45 : decode cX3_countEntries 45 = .ok (.goto 9, 3) := by decide +kernel
theorem dX3_countEntries_48 : decode cX3_countEntries 48 = .ok (.iinc 4 1, 3) := by decide +kernel
theorem dX3_countEntries_51 : decode cX3_countEntries 51 = .ok (.goto (-42), 3) := by decide +kernel
theorem dX3_countEntries_54 : decode cX3_countEntries 54 = .ok (.aload_n 0, 1) := by decide +kernel
theorem dX3_countEntries_55 : decode cX3_countEntries 55 = .ok (.getfield 21, 3) := by decide +kernel
theorem dX3_countEntries_58 : decode cX3_countEntries 58 = .ok (.ireturn, 1) := by decide +kernel
set_option maxRecDepth 20000 in
theorem ggX3_begin_X1_clear : GoodIn wsX3_begin wsX1_clear := goodIn_r _ [8, 9, 36, 37, 38] (by decide +kernel) (by decide +kernel)
set_option maxRecDepth 20000 in
theorem gX3_begin_X1_clear : GoodIn wsX3_begin (wsV RX3 42 RX1 yX1_clear wsX1_clear) := goodIn_app (goodIn_of _ (by decide +kernel)) ggX3_begin_X1_clear
set_option maxRecDepth 20000 in
theorem ggX3_begin_X2_at : GoodIn wsX3_begin wsX2_at := goodIn_r _ [14, 15, 39, 40] (by decide +kernel) (by decide +kernel)
set_option maxRecDepth 20000 in
theorem gX3_begin_X2_at : GoodIn wsX3_begin (wsV RX3 45 RX2 yX2_at wsX2_at) := goodIn_app (goodIn_of _ (by decide +kernel)) ggX3_begin_X2_at
set_option maxRecDepth 20000 in
theorem ggX3_begin_X1_rankNeighbours : GoodIn wsX3_begin wsX1_rankNeighbours := goodIn_r _ [19, 20, 5, 6, 7, 8, 9, 21, 22, 23, 13, 24, 25, 26, 27, 28, 29, 30, 31, 32, 36, 37, 38, 39, 40] (by decide +kernel) (by decide +kernel)
set_option maxRecDepth 20000 in
theorem gX3_begin_X1_rankNeighbours : GoodIn wsX3_begin (wsV RX3 51 RX1 yX1_rankNeighbours wsX1_rankNeighbours) := goodIn_app (goodIn_of _ (by decide +kernel)) ggX3_begin_X1_rankNeighbours
theorem dX3_begin_0 : decode cX3_begin 0 = .ok (.aload_n 0, 1) := by decide +kernel
theorem dX3_begin_1 : decode cX3_begin 1 = .ok (.iconst 0, 1) := by decide +kernel
theorem dX3_begin_2 : decode cX3_begin 2 = .ok (.putfield 21, 3) := by decide +kernel
theorem dX3_begin_5 : decode cX3_begin 5 = .ok (.iconst 0, 1) := by decide +kernel
theorem dX3_begin_6 : decode cX3_begin 6 = .ok (.istore_n 3, 1) := by decide +kernel
theorem dX3_begin_7 : decode cX3_begin 7 = .ok (.iload_n 3, 1) := by decide +kernel
theorem dX3_begin_8 : decode cX3_begin 8 = .ok (.bipush 16, 2) := by decide +kernel
theorem dX3_begin_10 : decode cX3_begin 10 = .ok (.if_icmp .ge 45, 3) := by decide +kernel
theorem dX3_begin_13 : decode cX3_begin 13 = .ok (.aload_n 0, 1) := by decide +kernel
theorem dX3_begin_14 : decode cX3_begin 14 = .ok (.getfield 17, 3) := by decide +kernel
theorem dX3_begin_17 : decode cX3_begin 17 = .ok (.iload_n 3, 1) := by decide +kernel
theorem dX3_begin_18 : decode cX3_begin 18 = .ok (.lconst 0, 1) := by decide +kernel
theorem dX3_begin_19 : decode cX3_begin 19 = .ok (.lastore, 1) := by decide +kernel
theorem dX3_begin_20 : decode cX3_begin 20 = .ok (.aload_n 0, 1) := by decide +kernel
theorem dX3_begin_21 : decode cX3_begin 21 = .ok (.getfield 11, 3) := by decide +kernel
theorem dX3_begin_24 : decode cX3_begin 24 = .ok (.iload_n 3, 1) := by decide +kernel
theorem dX3_begin_25 : decode cX3_begin 25 = .ok (.aaload, 1) := by decide +kernel
theorem dX3_begin_26 : decode cX3_begin 26 = .ok (.invokevirtual 42, 3) := by decide +kernel
theorem dX3_begin_29 : decode cX3_begin 29 = .ok (.aload_n 1, 1) := by decide +kernel
theorem dX3_begin_30 : decode cX3_begin 30 = .ok (.iload_n 2, 1) := by decide +kernel
theorem dX3_begin_31 : decode cX3_begin 31 = .ok (.iload_n 3, 1) := by decide +kernel
theorem dX3_begin_32 : decode cX3_begin 32 = .ok (.invokevirtual 45, 3) := by decide +kernel
theorem dX3_begin_35 : decode cX3_begin 35 = .ok (.ifCond .eq 14, 3) := by decide +kernel
theorem dX3_begin_38 : decode cX3_begin 38 = .ok (.aload_n 0, 1) := by decide +kernel
theorem dX3_begin_39 : decode cX3_begin 39 = .ok (.getfield 11, 3) := by decide +kernel
theorem dX3_begin_42 : decode cX3_begin 42 = .ok (.iload_n 3, 1) := by decide +kernel
theorem dX3_begin_43 : decode cX3_begin 43 = .ok (.aaload, 1) := by decide +kernel
theorem dX3_begin_44 : decode cX3_begin 44 = .ok (.aload_n 1, 1) := by decide +kernel
theorem dX3_begin_45 : decode cX3_begin 45 = .ok (.iload_n 3, 1) := by decide +kernel
theorem dX3_begin_46 : decode cX3_begin 46 = .ok (.invokevirtual 51, 3) := by decide +kernel
theorem dX3_begin_49 : decode cX3_begin 49 = .ok (.iinc 3 1, 3) := by decide +kernel
theorem dX3_begin_52 : decode cX3_begin 52 = .ok (.goto (-45), 3) := by decide +kernel
theorem dX3_begin_55 : decode cX3_begin 55 = .ok (.return_, 1) := by decide +kernel
set_option maxRecDepth 20000 in
theorem ggX3_isEntryLeft_X1_has : GoodIn wsX3_isEntryLeft wsX1_has := goodIn_r _ [6, 7, 11, 12, 13] (by decide +kernel) (by decide +kernel)
set_option maxRecDepth 20000 in
theorem gX3_isEntryLeft_X1_has : GoodIn wsX3_isEntryLeft (wsV RX3 54 RX1 yX1_has wsX1_has) := goodIn_app (goodIn_of _ (by decide +kernel)) ggX3_isEntryLeft_X1_has
theorem dX3_isEntryLeft_0 : decode cX3_isEntryLeft 0 = .ok (.iconst 0, 1) := by decide +kernel
theorem dX3_isEntryLeft_1 : decode cX3_isEntryLeft 1 = .ok (.istore_n 2, 1) := by decide +kernel
theorem dX3_isEntryLeft_2 : decode cX3_isEntryLeft 2 = .ok (.iload_n 2, 1) := by decide +kernel
theorem dX3_isEntryLeft_3 : decode cX3_isEntryLeft 3 = .ok (.bipush 16, 2) := by decide +kernel
theorem dX3_isEntryLeft_5 : decode cX3_isEntryLeft 5 = .ok (.if_icmp .ge 24, 3) := by decide +kernel
theorem dX3_isEntryLeft_8 : decode cX3_isEntryLeft 8 = .ok (.aload_n 0, 1) := by decide +kernel
theorem dX3_isEntryLeft_9 : decode cX3_isEntryLeft 9 = .ok (.getfield 11, 3) := by decide +kernel
theorem dX3_isEntryLeft_12 : decode cX3_isEntryLeft 12 = .ok (.iload_n 2, 1) := by decide +kernel
theorem dX3_isEntryLeft_13 : decode cX3_isEntryLeft 13 = .ok (.aaload, 1) := by decide +kernel
theorem dX3_isEntryLeft_14 : decode cX3_isEntryLeft 14 = .ok (.iload_n 1, 1) := by decide +kernel
theorem dX3_isEntryLeft_15 : decode cX3_isEntryLeft 15 = .ok (.invokevirtual 54, 3) := by decide +kernel
theorem dX3_isEntryLeft_18 : decode cX3_isEntryLeft 18 = .ok (.ifCond .eq 5, 3) := by decide +kernel
theorem dX3_isEntryLeft_21 : decode cX3_isEntryLeft 21 = .ok (.iconst 1, 1) := by decide +kernel
theorem dX3_isEntryLeft_22 : decode cX3_isEntryLeft 22 = .ok (.ireturn, 1) := by decide +kernel
theorem dX3_isEntryLeft_23 : decode cX3_isEntryLeft 23 = .ok (.iinc 2 1, 3) := by decide +kernel
theorem dX3_isEntryLeft_26 : decode cX3_isEntryLeft 26 = .ok (.goto (-24), 3) := by decide +kernel
theorem dX3_isEntryLeft_29 : decode cX3_isEntryLeft 29 = .ok (.iconst 0, 1) := by decide +kernel
theorem dX3_isEntryLeft_30 : decode cX3_isEntryLeft 30 = .ok (.ireturn, 1) := by decide +kernel
set_option maxRecDepth 20000 in
theorem ggX3_readRound_X1_has : GoodIn wsX3_readRound wsX1_has := goodIn_r _ [7, 8, 49, 50, 51] (by decide +kernel) (by decide +kernel)
set_option maxRecDepth 20000 in
theorem gX3_readRound_X1_has : GoodIn wsX3_readRound (wsV RX3 54 RX1 yX1_has wsX1_has) := goodIn_app (goodIn_of _ (by decide +kernel)) ggX3_readRound_X1_has
set_option maxRecDepth 20000 in
theorem ggX3_readRound_X2_at : GoodIn wsX3_readRound wsX2_at := goodIn_r _ [13, 14, 52, 53] (by decide +kernel) (by decide +kernel)
set_option maxRecDepth 20000 in
theorem gX3_readRound_X2_at : GoodIn wsX3_readRound (wsV RX3 45 RX2 yX2_at wsX2_at) := goodIn_app (goodIn_of _ (by decide +kernel)) ggX3_readRound_X2_at
set_option maxRecDepth 20000 in
theorem ggX3_readRound_X1_valueAt : GoodIn wsX3_readRound wsX1_valueAt := goodIn_r _ [18, 19, 20, 4, 5, 6, 7, 8, 49, 50, 51] (by decide +kernel) (by decide +kernel)
set_option maxRecDepth 20000 in
theorem gX3_readRound_X1_valueAt : GoodIn wsX3_readRound (wsV RX3 57 RX1 yX1_valueAt wsX1_valueAt) := goodIn_app (goodIn_of _ (by decide +kernel)) ggX3_readRound_X1_valueAt
set_option maxRecDepth 20000 in
theorem ggX3_readRound_X1_itemAt : GoodIn wsX3_readRound wsX1_itemAt := goodIn_r _ [24, 25, 20, 4, 5, 6, 7, 8, 49, 50, 51] (by decide +kernel) (by decide +kernel)
set_option maxRecDepth 20000 in
theorem gX3_readRound_X1_itemAt : GoodIn wsX3_readRound (wsV RX3 61 RX1 yX1_itemAt wsX1_itemAt) := goodIn_app (goodIn_of _ (by decide +kernel)) ggX3_readRound_X1_itemAt
set_option maxRecDepth 20000 in
theorem ggX3_readRound_X3_find : GoodIn wsX3_readRound wsX3_find := goodIn_r _ [30, 31, 9, 10, 11, 12, 13, 14, 32, 33, 34, 35, 36, 37, 38, 39, 40, 41, 42, 43, 44, 45, 46, 47, 48, 52, 53] (by decide +kernel) (by decide +kernel)
set_option maxRecDepth 20000 in
theorem gX3_readRound_X3_find : GoodIn wsX3_readRound (wsV RX3 65 RX3 yX3_find wsX3_find) := goodIn_app (goodIn_of _ (by decide +kernel)) ggX3_readRound_X3_find
theorem dX3_readRound_0 : decode cX3_readRound 0 = .ok (.lconst 0, 1) := by decide +kernel
theorem dX3_readRound_1 : decode cX3_readRound 1 = .ok (.lstore 4, 2) := by decide +kernel
theorem dX3_readRound_3 : decode cX3_readRound 3 = .ok (.iconst 0, 1) := by decide +kernel
theorem dX3_readRound_4 : decode cX3_readRound 4 = .ok (.istore 6, 2) := by decide +kernel
theorem dX3_readRound_6 : decode cX3_readRound 6 = .ok (.iload 6, 2) := by decide +kernel
theorem dX3_readRound_8 : decode cX3_readRound 8 = .ok (.bipush 16, 2) := by decide +kernel
theorem dX3_readRound_10 : decode cX3_readRound 10 = .ok (.if_icmp .ge 75, 3) := by decide +kernel
theorem dX3_readRound_13 : decode cX3_readRound 13 = .ok (.aload_n 0, 1) := by decide +kernel
theorem dX3_readRound_14 : decode cX3_readRound 14 = .ok (.getfield 11, 3) := by decide +kernel
theorem dX3_readRound_17 : decode cX3_readRound 17 = .ok (.iload 6, 2) := by decide +kernel
theorem dX3_readRound_19 : decode cX3_readRound 19 = .ok (.aaload, 1) := by decide +kernel
theorem dX3_readRound_20 : decode cX3_readRound 20 = .ok (.iload_n 3, 1) := by decide +kernel
theorem dX3_readRound_21 : decode cX3_readRound 21 = .ok (.invokevirtual 54, 3) := by decide +kernel
theorem dX3_readRound_24 : decode cX3_readRound 24 = .ok (.ifCond .eq 55, 3) := by decide +kernel
theorem dX3_readRound_27 : decode cX3_readRound 27 = .ok (.aload_n 0, 1) := by decide +kernel
theorem dX3_readRound_28 : decode cX3_readRound 28 = .ok (.dup, 1) := by decide +kernel
theorem dX3_readRound_29 : decode cX3_readRound 29 = .ok (.getfield 21, 3) := by decide +kernel
theorem dX3_readRound_32 : decode cX3_readRound 32 = .ok (.iconst 1, 1) := by decide +kernel
theorem dX3_readRound_33 : decode cX3_readRound 33 = .ok (.iadd, 1) := by decide +kernel
theorem dX3_readRound_34 : decode cX3_readRound 34 = .ok (.putfield 21, 3) := by decide +kernel
theorem dX3_readRound_37 : decode cX3_readRound 37 = .ok (.lload 4, 2) := by decide +kernel
theorem dX3_readRound_39 : decode cX3_readRound 39 = .ok (.aload_n 1, 1) := by decide +kernel
theorem dX3_readRound_40 : decode cX3_readRound 40 = .ok (.iload_n 2, 1) := by decide +kernel
theorem dX3_readRound_41 : decode cX3_readRound 41 = .ok (.iload 6, 2) := by decide +kernel
theorem dX3_readRound_43 : decode cX3_readRound 43 = .ok (.invokevirtual 45, 3) := by decide +kernel
theorem dX3_readRound_46 : decode cX3_readRound 46 = .ok (.i2l, 1) := by decide +kernel
theorem dX3_readRound_47 : decode cX3_readRound 47 = .ok (.aload_n 0, 1) := by decide +kernel
theorem dX3_readRound_48 : decode cX3_readRound 48 = .ok (.getfield 11, 3) := by decide +kernel
theorem dX3_readRound_51 : decode cX3_readRound 51 = .ok (.iload 6, 2) := by decide +kernel
theorem dX3_readRound_53 : decode cX3_readRound 53 = .ok (.aaload, 1) := by decide +kernel
theorem dX3_readRound_54 : decode cX3_readRound 54 = .ok (.iload_n 3, 1) := by decide +kernel
theorem dX3_readRound_55 : decode cX3_readRound 55 = .ok (.invokevirtual 57, 3) := by decide +kernel
theorem dX3_readRound_58 : decode cX3_readRound 58 = .ok (.lmul, 1) := by decide +kernel
theorem dX3_readRound_59 : decode cX3_readRound 59 = .ok (.ladd, 1) := by decide +kernel
theorem dX3_readRound_60 : decode cX3_readRound 60 = .ok (.lstore 4, 2) := by decide +kernel
theorem dX3_readRound_62 : decode cX3_readRound 62 = .ok (.aload_n 0, 1) := by decide +kernel
theorem dX3_readRound_63 : decode cX3_readRound 63 = .ok (.aload_n 1, 1) := by decide +kernel
theorem dX3_readRound_64 : decode cX3_readRound 64 = .ok (.iload_n 2, 1) := by decide +kernel
theorem dX3_readRound_65 : decode cX3_readRound 65 = .ok (.aload_n 0, 1) := by decide +kernel
theorem dX3_readRound_66 : decode cX3_readRound 66 = .ok (.getfield 11, 3) := by decide +kernel
theorem dX3_readRound_69 : decode cX3_readRound 69 = .ok (.iload 6, 2) := by decide +kernel
theorem dX3_readRound_71 : decode cX3_readRound 71 = .ok (.aaload, 1) := by decide +kernel
theorem dX3_readRound_72 : decode cX3_readRound 72 = .ok (.iload_n 3, 1) := by decide +kernel
theorem dX3_readRound_73 : decode cX3_readRound 73 = .ok (.invokevirtual 61, 3) := by decide +kernel
theorem dX3_readRound_76 : decode cX3_readRound 76 = .ok (.invokevirtual 65, 3) := by decide +kernel
theorem dX3_readRound_79 : decode cX3_readRound 79 = .ok (.iinc 6 1, 3) := by decide +kernel
theorem dX3_readRound_82 : decode cX3_readRound 82 = .ok (.goto (-76), 3) := by decide +kernel
theorem dX3_readRound_85 : decode cX3_readRound 85 = .ok (.lload 4, 2) := by decide +kernel
theorem dX3_readRound_87 : decode cX3_readRound 87 = .ok (.lreturn, 1) := by decide +kernel
set_option maxRecDepth 20000 in
theorem ggX3_find_X2_at : GoodIn wsX3_find wsX2_at := goodIn_r _ [6, 7, 25, 26] (by decide +kernel) (by decide +kernel)
set_option maxRecDepth 20000 in
theorem gX3_find_X2_at : GoodIn wsX3_find (wsV RX3 45 RX2 yX2_at wsX2_at) := goodIn_app (goodIn_of _ (by decide +kernel)) ggX3_find_X2_at
set_option maxRecDepth 20000 in
theorem ggX3_find_X2_scoreOf : GoodIn wsX3_find wsX2_scoreOf := goodIn_r _ [11, 12, 13, 14, 5, 15, 7, 16, 17, 18, 19, 20, 21, 25, 26] (by decide +kernel) (by decide +kernel)
set_option maxRecDepth 20000 in
theorem gX3_find_X2_scoreOf : GoodIn wsX3_find (wsV RX3 69 RX2 yX2_scoreOf wsX2_scoreOf) := goodIn_app (goodIn_of _ (by decide +kernel)) ggX3_find_X2_scoreOf
theorem dX3_find_0 : decode cX3_find 0 = .ok (.aload_n 1, 1) := by decide +kernel
theorem dX3_find_1 : decode cX3_find 1 = .ok (.iload_n 2, 1) := by decide +kernel
theorem dX3_find_2 : decode cX3_find 2 = .ok (.iload_n 3, 1) := by decide +kernel
theorem dX3_find_3 : decode cX3_find 3 = .ok (.invokevirtual 45, 3) := by decide +kernel
theorem dX3_find_6 : decode cX3_find 6 = .ok (.ifCond .ne 26, 3) := by decide +kernel
theorem dX3_find_9 : decode cX3_find 9 = .ok (.aload_n 0, 1) := by decide +kernel
theorem dX3_find_10 : decode cX3_find 10 = .ok (.getfield 17, 3) := by decide +kernel
theorem dX3_find_13 : decode cX3_find 13 = .ok (.iload_n 3, 1) := by decide +kernel
theorem dX3_find_14 : decode cX3_find 14 = .ok (.laload, 1) := by decide +kernel
theorem dX3_find_15 : decode cX3_find 15 = .ok (.lconst 0, 1) := by decide +kernel
theorem dX3_find_16 : decode cX3_find 16 = .ok (.lcmp, 1) := by decide +kernel
theorem dX3_find_17 : decode cX3_find 17 = .ok (.ifCond .ne 15, 3) := by decide +kernel
theorem dX3_find_20 : decode cX3_find 20 = .ok (.aload_n 0, 1) := by decide +kernel
theorem dX3_find_21 : decode cX3_find 21 = .ok (.getfield 17, 3) := by decide +kernel
theorem dX3_find_24 : decode cX3_find 24 = .ok (.iload_n 3, 1) := by decide +kernel
theorem dX3_find_25 : decode cX3_find 25 = .ok (.aload_n 1, 1) := by decide +kernel
theorem dX3_find_26 : decode cX3_find 26 = .ok (.iload_n 2, 1) := by decide +kernel
theorem dX3_find_27 : decode cX3_find 27 = .ok (.iload_n 3, 1) := by decide +kernel
theorem dX3_find_28 : decode cX3_find 28 = .ok (.invokevirtual 69, 3) := by decide +kernel
theorem dX3_find_31 : decode cX3_find 31 = .ok (.lastore, 1) := by decide +kernel
theorem dX3_find_32 : decode cX3_find 32 = .ok (.return_, 1) := by decide +kernel
theorem dX3_countFoundAbove_0 : decode cX3_countFoundAbove 0 = .ok (.iconst 0, 1) := by decide +kernel
theorem dX3_countFoundAbove_1 : decode cX3_countFoundAbove 1 = .ok (.istore_n 3, 1) := by decide +kernel
theorem dX3_countFoundAbove_2 : decode cX3_countFoundAbove 2 = .ok (.iconst 0, 1) := by decide +kernel
theorem dX3_countFoundAbove_3 : decode cX3_countFoundAbove 3 = .ok (.istore 4, 2) := by decide +kernel
theorem dX3_countFoundAbove_5 : decode cX3_countFoundAbove 5 = .ok (.iload 4, 2) := by decide +kernel
theorem dX3_countFoundAbove_7 : decode cX3_countFoundAbove 7 = .ok (.bipush 16, 2) := by decide +kernel
theorem dX3_countFoundAbove_9 : decode cX3_countFoundAbove 9 = .ok (.if_icmp .ge 24, 3) := by decide +kernel
theorem dX3_countFoundAbove_12 : decode cX3_countFoundAbove 12 = .ok (.aload_n 0, 1) := by decide +kernel
theorem dX3_countFoundAbove_13 : decode cX3_countFoundAbove 13 = .ok (.getfield 17, 3) := by decide +kernel
theorem dX3_countFoundAbove_16 : decode cX3_countFoundAbove 16 = .ok (.iload 4, 2) := by decide +kernel
theorem dX3_countFoundAbove_18 : decode cX3_countFoundAbove 18 = .ok (.laload, 1) := by decide +kernel
theorem dX3_countFoundAbove_19 : decode cX3_countFoundAbove 19 = .ok (.lload_n 1, 1) := by decide +kernel
theorem dX3_countFoundAbove_20 : decode cX3_countFoundAbove 20 = .ok (.lcmp, 1) := by decide +kernel
theorem dX3_countFoundAbove_21 : decode cX3_countFoundAbove 21 = .ok (.ifCond .le 6, 3) := by decide +kernel
theorem dX3_countFoundAbove_24 : decode cX3_countFoundAbove 24 = .ok (.iinc 3 1, 3) := by decide +kernel
theorem dX3_countFoundAbove_27 : decode cX3_countFoundAbove 27 = .ok (.iinc 4 1, 3) := by decide +kernel
theorem dX3_countFoundAbove_30 : decode cX3_countFoundAbove 30 = .ok (.goto (-25), 3) := by decide +kernel
theorem dX3_countFoundAbove_33 : decode cX3_countFoundAbove 33 = .ok (.iload_n 3, 1) := by decide +kernel
theorem dX3_countFoundAbove_34 : decode cX3_countFoundAbove 34 = .ok (.ireturn, 1) := by decide +kernel
theorem dX4_init_0 : decode cX4_init 0 = .ok (.aload_n 0, 1) := by decide +kernel
theorem dX4_init_1 : decode cX4_init 1 = .ok (.invokespecial 5, 3) := by decide +kernel
theorem dX4_init_4 : decode cX4_init 4 = .ok (.aload_n 0, 1) := by decide +kernel
theorem dX4_init_5 : decode cX4_init 5 = .ok (.iconst 3, 1) := by decide +kernel
theorem dX4_init_6 : decode cX4_init 6 = .ok (.newarray .int, 2) := by decide +kernel
theorem dX4_init_8 : decode cX4_init 8 = .ok (.putfield 13, 3) := by decide +kernel
theorem dX4_init_11 : decode cX4_init 11 = .ok (.return_, 1) := by decide +kernel
set_option maxRecDepth 20000 in
theorem ggX4_writeRecord_X0_checkOf : GoodIn wsX4_writeRecord wsX0_checkOf := goodIn_r _ [5, 6, 7, 4, 8, 9, 10] (by decide +kernel) (by decide +kernel)
set_option maxRecDepth 20000 in
theorem gX4_writeRecord_X0_checkOf : GoodIn wsX4_writeRecord (va_wsS RX4 17 yX0_checkOf wsX0_checkOf) := goodIn_app (goodIn_of _ (by decide +kernel)) ggX4_writeRecord_X0_checkOf
set_option maxRecDepth 20000 in
theorem ggX4_writeRecord_X4_startOf : GoodIn wsX4_writeRecord wsX4_startOf := goodIn_r _ [14, 15, 16, 17, 18] (by decide +kernel) (by decide +kernel)
set_option maxRecDepth 20000 in
theorem gX4_writeRecord_X4_startOf : GoodIn wsX4_writeRecord (va_wsS RX4 23 yX4_startOf wsX4_startOf) := goodIn_app (goodIn_of _ (by decide +kernel)) ggX4_writeRecord_X4_startOf
set_option maxRecDepth 20000 in
theorem ggX4_writeRecord_X0_writeRow : GoodIn wsX4_writeRecord wsX0_writeRow := goodIn_r _ [22, 23, 24, 25, 4, 26, 27, 28, 29, 30, 31, 32, 33, 34, 35, 36, 37, 39, 40, 41] (by decide +kernel) (by decide +kernel)
set_option maxRecDepth 20000 in
theorem gX4_writeRecord_X0_writeRow : GoodIn wsX4_writeRecord (wsV RX4 27 RX0 yX0_writeRow wsX0_writeRow) := goodIn_app (goodIn_of _ (by decide +kernel)) ggX4_writeRecord_X0_writeRow
theorem dX4_writeRecord_0 : decode cX4_writeRecord 0 = .ok (.aload_n 0, 1) := by decide +kernel
theorem dX4_writeRecord_1 : decode cX4_writeRecord 1 = .ok (.getfield 13, 3) := by decide +kernel
theorem dX4_writeRecord_4 : decode cX4_writeRecord 4 = .ok (.iconst 0, 1) := by decide +kernel
theorem dX4_writeRecord_5 : decode cX4_writeRecord 5 = .ok (.iload_n 2, 1) := by decide +kernel
theorem dX4_writeRecord_6 : decode cX4_writeRecord 6 = .ok (.iastore, 1) := by decide +kernel
theorem dX4_writeRecord_7 : decode cX4_writeRecord 7 = .ok (.aload_n 0, 1) := by decide +kernel
theorem dX4_writeRecord_8 : decode cX4_writeRecord 8 = .ok (.getfield 13, 3) := by decide +kernel
theorem dX4_writeRecord_11 : decode cX4_writeRecord 11 = .ok (.iconst 1, 1) := by decide +kernel
theorem dX4_writeRecord_12 : decode cX4_writeRecord 12 = .ok (.sipush 1000, 3) := by decide +kernel
theorem dX4_writeRecord_15 : decode cX4_writeRecord 15 = .ok (.iload_n 3, 1) := by decide +kernel
theorem dX4_writeRecord_16 : decode cX4_writeRecord 16 = .ok (.imul, 1) := by decide +kernel
theorem dX4_writeRecord_17 : decode cX4_writeRecord 17 = .ok (.bipush 10, 2) := by decide +kernel
theorem dX4_writeRecord_19 : decode cX4_writeRecord 19 = .ok (.iload 4, 2) := by decide +kernel
theorem dX4_writeRecord_21 : decode cX4_writeRecord 21 = .ok (.imul, 1) := by decide +kernel
theorem dX4_writeRecord_22 : decode cX4_writeRecord 22 = .ok (.iadd, 1) := by decide +kernel
theorem dX4_writeRecord_23 : decode cX4_writeRecord 23 = .ok (.iload 5, 2) := by decide +kernel
theorem dX4_writeRecord_25 : decode cX4_writeRecord 25 = .ok (.iadd, 1) := by decide +kernel
theorem dX4_writeRecord_26 : decode cX4_writeRecord 26 = .ok (.iastore, 1) := by decide +kernel
theorem dX4_writeRecord_27 : decode cX4_writeRecord 27 = .ok (.aload_n 0, 1) := by decide +kernel
theorem dX4_writeRecord_28 : decode cX4_writeRecord 28 = .ok (.getfield 13, 3) := by decide +kernel
theorem dX4_writeRecord_31 : decode cX4_writeRecord 31 = .ok (.iconst 2, 1) := by decide +kernel
theorem dX4_writeRecord_32 : decode cX4_writeRecord 32 = .ok (.aload_n 0, 1) := by decide +kernel
theorem dX4_writeRecord_33 : decode cX4_writeRecord 33 = .ok (.getfield 13, 3) := by decide +kernel
theorem dX4_writeRecord_36 : decode cX4_writeRecord 36 = .ok (.iconst 0, 1) := by decide +kernel
theorem dX4_writeRecord_37 : decode cX4_writeRecord 37 = .ok (.iconst 2, 1) := by decide +kernel
theorem dX4_writeRecord_38 : decode cX4_writeRecord 38 = .ok (.iconst 2, 1) := by decide +kernel
theorem dX4_writeRecord_39 : decode cX4_writeRecord 39 = .ok (.invokestatic 17, 3) := by decide +kernel
theorem dX4_writeRecord_42 : decode cX4_writeRecord 42 = .ok (.iastore, 1) := by decide +kernel
theorem dX4_writeRecord_43 : decode cX4_writeRecord 43 = .ok (.aload_n 1, 1) := by decide +kernel
theorem dX4_writeRecord_44 : decode cX4_writeRecord 44 = .ok (.iload_n 2, 1) := by decide +kernel
theorem dX4_writeRecord_45 : decode cX4_writeRecord 45 = .ok (.invokestatic 23, 3) := by decide +kernel
theorem dX4_writeRecord_48 : decode cX4_writeRecord 48 = .ok (.aload_n 0, 1) := by decide +kernel
theorem dX4_writeRecord_49 : decode cX4_writeRecord 49 = .ok (.getfield 13, 3) := by decide +kernel
theorem dX4_writeRecord_52 : decode cX4_writeRecord 52 = .ok (.invokevirtual 27, 3) := by decide +kernel
theorem dX4_writeRecord_55 : decode cX4_writeRecord 55 = .ok (.ireturn, 1) := by decide +kernel
set_option maxRecDepth 20000 in
theorem ggX4_holds_X4_startOf : GoodIn wsX4_holds wsX4_startOf := goodIn_r _ [4, 5, 6, 7, 8] (by decide +kernel) (by decide +kernel)
set_option maxRecDepth 20000 in
theorem gX4_holds_X4_startOf : GoodIn wsX4_holds (va_wsS RX4 23 yX4_startOf wsX4_startOf) := goodIn_app (goodIn_of _ (by decide +kernel)) ggX4_holds_X4_startOf
set_option maxRecDepth 20000 in
theorem ggX4_holds_X0_at : GoodIn wsX4_holds wsX0_at := goodIn_r _ [13, 14, 15, 16, 17, 12, 18, 49, 50, 51] (by decide +kernel) (by decide +kernel)
set_option maxRecDepth 20000 in
theorem gX4_holds_X0_at : GoodIn wsX4_holds (wsV RX4 31 RX0 yX0_at wsX0_at) := goodIn_app (goodIn_of _ (by decide +kernel)) ggX4_holds_X0_at
set_option maxRecDepth 20000 in
theorem ggX4_holds_X0_isCheckRight : GoodIn wsX4_holds wsX0_isCheckRight := goodIn_r _ [22, 14, 23, 10, 11, 12, 13, 15, 16, 17, 18, 24, 25, 26, 27, 28, 29, 30, 31, 49, 50, 51] (by decide +kernel) (by decide +kernel)
set_option maxRecDepth 20000 in
theorem gX4_holds_X0_isCheckRight : GoodIn wsX4_holds (wsV RX4 34 RX0 yX0_isCheckRight wsX0_isCheckRight) := goodIn_app (goodIn_of _ (by decide +kernel)) ggX4_holds_X0_isCheckRight
set_option maxRecDepth 20000 in
theorem ggX4_holds_X4_namesRating : GoodIn wsX4_holds wsX4_namesRating := goodIn_r _ [34, 35, 36, 3, 37, 38, 39, 40, 41, 42, 43, 44, 45, 46, 47, 48] (by decide +kernel) (by decide +kernel)
set_option maxRecDepth 20000 in
theorem gX4_holds_X4_namesRating : GoodIn wsX4_holds (va_wsS RX4 38 yX4_namesRating wsX4_namesRating) := goodIn_app (goodIn_of _ (by decide +kernel)) ggX4_holds_X4_namesRating
theorem dX4_holds_0 : decode cX4_holds 0 = .ok (.iload_n 1, 1) := by decide +kernel
theorem dX4_holds_1 : decode cX4_holds 1 = .ok (.invokestatic 23, 3) := by decide +kernel
theorem dX4_holds_4 : decode cX4_holds 4 = .ok (.istore_n 2, 1) := by decide +kernel
theorem dX4_holds_5 : decode cX4_holds 5 = .ok (.aload_n 0, 1) := by decide +kernel
theorem dX4_holds_6 : decode cX4_holds 6 = .ok (.iload_n 2, 1) := by decide +kernel
theorem dX4_holds_7 : decode cX4_holds 7 = .ok (.invokevirtual 31, 3) := by decide +kernel
theorem dX4_holds_10 : decode cX4_holds 10 = .ok (.iload_n 1, 1) := by decide +kernel
theorem dX4_holds_11 : decode cX4_holds 11 = .ok (.if_icmp .ne 30, 3) := by decide +kernel
theorem dX4_holds_14 : decode cX4_holds 14 = .ok (.aload_n 0, 1) := by decide +kernel
theorem dX4_holds_15 : decode cX4_holds 15 = .ok (.iload_n 2, 1) := by decide +kernel
theorem dX4_holds_16 : decode cX4_holds 16 = .ok (.iconst 2, 1) := by decide +kernel
theorem dX4_holds_17 : decode cX4_holds 17 = .ok (.iconst 2, 1) := by decide +kernel
theorem dX4_holds_18 : decode cX4_holds 18 = .ok (.invokevirtual 34, 3) := by decide +kernel
theorem dX4_holds_21 : decode cX4_holds 21 = .ok (.ifCond .eq 20, 3) := by decide +kernel
theorem dX4_holds_24 : decode cX4_holds 24 = .ok (.aload_n 0, 1) := by decide +kernel
theorem dX4_holds_25 : decode cX4_holds 25 = .ok (.iload_n 2, 1) := by decide +kernel
theorem dX4_holds_26 : decode cX4_holds 26 = .ok (.iconst 1, 1) := by decide +kernel
theorem dX4_holds_27 : decode cX4_holds 27 = .ok (.iadd, 1) := by decide +kernel
theorem dX4_holds_28 : decode cX4_holds 28 = .ok (.invokevirtual 31, 3) := by decide +kernel
theorem dX4_holds_31 : decode cX4_holds 31 = .ok (.invokestatic 38, 3) := by decide +kernel
theorem dX4_holds_34 : decode cX4_holds 34 = .ok (.ifCond .eq 7, 3) := by decide +kernel
theorem dX4_holds_37 : decode cX4_holds 37 = .ok (.iconst 1, 1) := by decide +kernel
theorem dX4_holds_38 : decode cX4_holds 38 = .ok (.goto 4, 3) := by decide +kernel
theorem dX4_holds_41 : decode cX4_holds 41 = .ok (.iconst 0, 1) := by decide +kernel
theorem dX4_holds_42 : decode cX4_holds 42 = .ok (.ireturn, 1) := by decide +kernel
set_option maxRecDepth 20000 in
theorem ggX4_repeat_X4_startOf : GoodIn wsX4_repeat wsX4_startOf := goodIn_r _ [4, 5, 6, 7, 8] (by decide +kernel) (by decide +kernel)
set_option maxRecDepth 20000 in
theorem gX4_repeat_X4_startOf : GoodIn wsX4_repeat (va_wsS RX4 23 yX4_startOf wsX4_startOf) := goodIn_app (goodIn_of _ (by decide +kernel)) ggX4_repeat_X4_startOf
set_option maxRecDepth 20000 in
theorem ggX4_repeat_X0_at : GoodIn wsX4_repeat wsX0_at := goodIn_r _ [13, 14, 15, 16, 17, 12, 18, 35, 36, 37] (by decide +kernel) (by decide +kernel)
set_option maxRecDepth 20000 in
theorem gX4_repeat_X0_at : GoodIn wsX4_repeat (wsV RX4 31 RX0 yX0_at wsX0_at) := goodIn_app (goodIn_of _ (by decide +kernel)) ggX4_repeat_X0_at
set_option maxRecDepth 20000 in
theorem ggX4_repeat_X4_userIn : GoodIn wsX4_repeat wsX4_userIn := goodIn_r _ [21] (by decide +kernel) (by decide +kernel)
set_option maxRecDepth 20000 in
theorem gX4_repeat_X4_userIn : GoodIn wsX4_repeat (va_wsS RX4 42 yX4_userIn wsX4_userIn) := goodIn_app (goodIn_of _ (by decide +kernel)) ggX4_repeat_X4_userIn
set_option maxRecDepth 20000 in
theorem ggX4_repeat_X4_itemIn : GoodIn wsX4_repeat wsX4_itemIn := goodIn_r _ [24] (by decide +kernel) (by decide +kernel)
set_option maxRecDepth 20000 in
theorem gX4_repeat_X4_itemIn : GoodIn wsX4_repeat (va_wsS RX4 45 yX4_itemIn wsX4_itemIn) := goodIn_app (goodIn_of _ (by decide +kernel)) ggX4_repeat_X4_itemIn
set_option maxRecDepth 20000 in
theorem ggX4_repeat_X4_ratingIn : GoodIn wsX4_repeat wsX4_ratingIn := goodIn_r _ [27] (by decide +kernel) (by decide +kernel)
set_option maxRecDepth 20000 in
theorem gX4_repeat_X4_ratingIn : GoodIn wsX4_repeat (va_wsS RX4 48 yX4_ratingIn wsX4_ratingIn) := goodIn_app (goodIn_of _ (by decide +kernel)) ggX4_repeat_X4_ratingIn
set_option maxRecDepth 20000 in
theorem ggX4_repeat_X2_set : GoodIn wsX4_repeat wsX2_set := goodIn_r _ [32, 33, 34, 38, 39] (by decide +kernel) (by decide +kernel)
set_option maxRecDepth 20000 in
theorem gX4_repeat_X2_set : GoodIn wsX4_repeat (wsV RX4 51 RX2 yX2_set wsX2_set) := goodIn_app (goodIn_of _ (by decide +kernel)) ggX4_repeat_X2_set
theorem dX4_repeat_0 : decode cX4_repeat 0 = .ok (.aload_n 0, 1) := by decide +kernel
theorem dX4_repeat_1 : decode cX4_repeat 1 = .ok (.iload_n 1, 1) := by decide +kernel
theorem dX4_repeat_2 : decode cX4_repeat 2 = .ok (.invokestatic 23, 3) := by decide +kernel
theorem dX4_repeat_5 : decode cX4_repeat 5 = .ok (.iconst 1, 1) := by decide +kernel
theorem dX4_repeat_6 : decode cX4_repeat 6 = .ok (.iadd, 1) := by decide +kernel
theorem dX4_repeat_7 : decode cX4_repeat 7 = .ok (.invokevirtual 31, 3) := by decide +kernel
theorem dX4_repeat_10 : decode cX4_repeat 10 = .ok (.istore_n 3, 1) := by decide +kernel
theorem dX4_repeat_11 : decode cX4_repeat 11 = .ok (.aload_n 2, 1) := by decide +kernel
theorem dX4_repeat_12 : decode cX4_repeat 12 = .ok (.iload_n 3, 1) := by decide +kernel
theorem dX4_repeat_13 : decode cX4_repeat 13 = .ok (.invokestatic 42, 3) := by decide +kernel
theorem dX4_repeat_16 : decode cX4_repeat 16 = .ok (.iload_n 3, 1) := by decide +kernel
theorem dX4_repeat_17 : decode cX4_repeat 17 = .ok (.invokestatic 45, 3) := by decide +kernel
theorem dX4_repeat_20 : decode cX4_repeat 20 = .ok (.iload_n 3, 1) := by decide +kernel
theorem dX4_repeat_21 : decode cX4_repeat 21 = .ok (.invokestatic 48, 3) := by decide +kernel
theorem dX4_repeat_24 : decode cX4_repeat 24 = .ok (.invokevirtual 51, 3) := by decide +kernel
theorem dX4_repeat_27 : decode cX4_repeat 27 = .ok (.return_, 1) := by decide +kernel
set_option maxRecDepth 20000 in
theorem ggX4_namesRating_X4_userIn : GoodIn wsX4_namesRating wsX4_userIn := goodIn_r _ [4] (by decide +kernel) (by decide +kernel)
set_option maxRecDepth 20000 in
theorem gX4_namesRating_X4_userIn : GoodIn wsX4_namesRating (va_wsS RX4 42 yX4_userIn wsX4_userIn) := goodIn_app (goodIn_of _ (by decide +kernel)) ggX4_namesRating_X4_userIn
set_option maxRecDepth 20000 in
theorem ggX4_namesRating_X6_isUser : GoodIn wsX4_namesRating wsX6_isUser := goodIn_r _ [7] (by decide +kernel) (by decide +kernel)
set_option maxRecDepth 20000 in
theorem gX4_namesRating_X6_isUser_n57 : GoodIn wsX4_namesRating (wsX6_isUser) := ggX4_namesRating_X6_isUser
set_option maxRecDepth 20000 in
theorem ggX4_namesRating_X4_itemIn : GoodIn wsX4_namesRating wsX4_itemIn := goodIn_r _ [10] (by decide +kernel) (by decide +kernel)
set_option maxRecDepth 20000 in
theorem gX4_namesRating_X4_itemIn : GoodIn wsX4_namesRating (va_wsS RX4 45 yX4_itemIn wsX4_itemIn) := goodIn_app (goodIn_of _ (by decide +kernel)) ggX4_namesRating_X4_itemIn
set_option maxRecDepth 20000 in
theorem ggX4_namesRating_X6_isItem : GoodIn wsX4_namesRating wsX6_isItem := goodIn_r _ [12] (by decide +kernel) (by decide +kernel)
set_option maxRecDepth 20000 in
theorem gX4_namesRating_X6_isItem_n60 : GoodIn wsX4_namesRating (wsX6_isItem) := ggX4_namesRating_X6_isItem
set_option maxRecDepth 20000 in
theorem ggX4_namesRating_X4_ratingIn : GoodIn wsX4_namesRating wsX4_ratingIn := goodIn_r _ [15] (by decide +kernel) (by decide +kernel)
set_option maxRecDepth 20000 in
theorem gX4_namesRating_X4_ratingIn : GoodIn wsX4_namesRating (va_wsS RX4 48 yX4_ratingIn wsX4_ratingIn) := goodIn_app (goodIn_of _ (by decide +kernel)) ggX4_namesRating_X4_ratingIn
theorem dX4_namesRating_0 : decode cX4_namesRating 0 = .ok (.iload_n 0, 1) := by decide +kernel
theorem dX4_namesRating_1 : decode cX4_namesRating 1 = .ok (.ifCond .lt 35, 3) := by decide +kernel
theorem dX4_namesRating_4 : decode cX4_namesRating 4 = .ok (.iload_n 0, 1) := by decide +kernel
theorem dX4_namesRating_5 : decode cX4_namesRating 5 = .ok (.invokestatic 42, 3) := by decide +kernel
theorem dX4_namesRating_8 : decode cX4_namesRating 8 = .ok (.invokestatic 57, 3) := by decide +kernel
theorem dX4_namesRating_11 : decode cX4_namesRating 11 = .ok (.ifCond .eq 25, 3) := by decide +kernel
theorem dX4_namesRating_14 : decode cX4_namesRating 14 = .ok (.iload_n 0, 1) := by decide +kernel
theorem dX4_namesRating_15 : decode cX4_namesRating 15 = .ok (.invokestatic 45, 3) := by decide +kernel
theorem dX4_namesRating_18 : decode cX4_namesRating 18 = .ok (.invokestatic 60, 3) := by decide +kernel
theorem dX4_namesRating_21 : decode cX4_namesRating 21 = .ok (.ifCond .eq 15, 3) := by decide +kernel
theorem dX4_namesRating_24 : decode cX4_namesRating 24 = .ok (.iload_n 0, 1) := by decide +kernel
theorem dX4_namesRating_25 : decode cX4_namesRating 25 = .ok (.invokestatic 48, 3) := by decide +kernel
theorem dX4_namesRating_28 : decode cX4_namesRating 28 = .ok (.iconst 5, 1) := by decide +kernel
theorem dX4_namesRating_29 : decode cX4_namesRating 29 = .ok (.if_icmp .gt 7, 3) := by decide +kernel
theorem dX4_namesRating_32 : decode cX4_namesRating 32 = .ok (.iconst 1, 1) := by decide +kernel
theorem dX4_namesRating_33 : decode cX4_namesRating 33 = .ok (.goto 4, 3) := by decide +kernel
theorem dX4_namesRating_36 : decode cX4_namesRating 36 = .ok (.iconst 0, 1) := by decide +kernel
theorem dX4_namesRating_37 : decode cX4_namesRating 37 = .ok (.ireturn, 1) := by decide +kernel
theorem dX4_userIn_0 : decode cX4_userIn 0 = .ok (.iload_n 0, 1) := by decide +kernel
theorem dX4_userIn_1 : decode cX4_userIn 1 = .ok (.sipush 1000, 3) := by decide +kernel
theorem dX4_userIn_4 : decode cX4_userIn 4 = .ok (.idiv, 1) := by decide +kernel
theorem dX4_userIn_5 : decode cX4_userIn 5 = .ok (.ireturn, 1) := by decide +kernel
theorem dX4_itemIn_0 : decode cX4_itemIn 0 = .ok (.iload_n 0, 1) := by decide +kernel
theorem dX4_itemIn_1 : decode cX4_itemIn 1 = .ok (.sipush 1000, 3) := by decide +kernel
theorem dX4_itemIn_4 : decode cX4_itemIn 4 = .ok (.irem, 1) := by decide +kernel
theorem dX4_itemIn_5 : decode cX4_itemIn 5 = .ok (.bipush 10, 2) := by decide +kernel
theorem dX4_itemIn_7 : decode cX4_itemIn 7 = .ok (.idiv, 1) := by decide +kernel
theorem dX4_itemIn_8 : decode cX4_itemIn 8 = .ok (.ireturn, 1) := by decide +kernel
theorem dX4_ratingIn_0 : decode cX4_ratingIn 0 = .ok (.iload_n 0, 1) := by decide +kernel
theorem dX4_ratingIn_1 : decode cX4_ratingIn 1 = .ok (.bipush 10, 2) := by decide +kernel
theorem dX4_ratingIn_3 : decode cX4_ratingIn 3 = .ok (.irem, 1) := by decide +kernel
theorem dX4_ratingIn_4 : decode cX4_ratingIn 4 = .ok (.ireturn, 1) := by decide +kernel
set_option maxRecDepth 20000 in
theorem ggX4_startOf_J9_floorMod_7cf53 : GoodIn wsX4_startOf wsJ9_floorMod_7cf53 := goodIn_r _ [4] (by decide +kernel) (by decide +kernel)
set_option maxRecDepth 20000 in
theorem gX4_startOf_J9_floorMod_7cf53 : GoodIn wsX4_startOf (va_wsS RX4 63 yJ9_floorMod_7cf53 wsJ9_floorMod_7cf53) := goodIn_app (goodIn_of _ (by decide +kernel)) ggX4_startOf_J9_floorMod_7cf53
theorem dX4_startOf_0 : decode cX4_startOf 0 = .ok (.bipush 52, 2) := by decide +kernel
theorem dX4_startOf_2 : decode cX4_startOf 2 = .ok (.iconst 3, 1) := by decide +kernel
theorem dX4_startOf_3 : decode cX4_startOf 3 = .ok (.iload_n 0, 1) := by decide +kernel
theorem dX4_startOf_4 : decode cX4_startOf 4 = .ok (.bipush 40, 2) := by decide +kernel
theorem dX4_startOf_6 : decode cX4_startOf 6 = .ok (.invokestatic 63, 3) := by decide +kernel
theorem dX4_startOf_9 : decode cX4_startOf 9 = .ok (.imul, 1) := by decide +kernel
theorem dX4_startOf_10 : decode cX4_startOf 10 = .ok (.iadd, 1) := by decide +kernel
theorem dX4_startOf_11 : decode cX4_startOf 11 = .ok (.ireturn, 1) := by decide +kernel
theorem dX5_init_0 : decode cX5_init 0 = .ok (.aload_n 0, 1) := by decide +kernel
theorem dX5_init_1 : decode cX5_init 1 = .ok (.invokespecial 3, 3) := by decide +kernel
theorem dX5_init_4 : decode cX5_init 4 = .ok (.aload_n 0, 1) := by decide +kernel
theorem dX5_init_5 : decode cX5_init 5 = .ok (.bipush 26, 2) := by decide +kernel
theorem dX5_init_7 : decode cX5_init 7 = .ok (.newarray .int, 2) := by decide +kernel
theorem dX5_init_9 : decode cX5_init 9 = .ok (.putfield 11, 3) := by decide +kernel
theorem dX5_init_12 : decode cX5_init 12 = .ok (.return_, 1) := by decide +kernel
set_option maxRecDepth 20000 in
theorem ggX5_writeOverOlder_X5_placeOf : GoodIn wsX5_writeOverOlder wsX5_placeOf := goodIn_r _ [5] (by decide +kernel) (by decide +kernel)
set_option maxRecDepth 20000 in
theorem gX5_writeOverOlder_X5_placeOf : GoodIn wsX5_writeOverOlder (va_wsS RX5 15 yX5_placeOf wsX5_placeOf) := goodIn_app (goodIn_of _ (by decide +kernel)) ggX5_writeOverOlder_X5_placeOf
set_option maxRecDepth 20000 in
theorem ggX5_writeOverOlder_X2_packed : GoodIn wsX5_writeOverOlder wsX2_packed := goodIn_r _ [10, 11, 61, 62] (by decide +kernel) (by decide +kernel)
set_option maxRecDepth 20000 in
theorem gX5_writeOverOlder_X2_packed : GoodIn wsX5_writeOverOlder (wsV RX5 19 RX2 yX2_packed wsX2_packed) := goodIn_app (goodIn_of _ (by decide +kernel)) ggX5_writeOverOlder_X2_packed
set_option maxRecDepth 20000 in
theorem ggX5_writeOverOlder_X0_checkOf : GoodIn wsX5_writeOverOlder wsX0_checkOf := goodIn_r _ [15, 16, 17, 14, 18, 19, 20] (by decide +kernel) (by decide +kernel)
set_option maxRecDepth 20000 in
theorem gX5_writeOverOlder_X0_checkOf : GoodIn wsX5_writeOverOlder (va_wsS RX5 24 yX0_checkOf wsX0_checkOf) := goodIn_app (goodIn_of _ (by decide +kernel)) ggX5_writeOverOlder_X0_checkOf
set_option maxRecDepth 20000 in
theorem ggX5_writeOverOlder_X5_newest : GoodIn wsX5_writeOverOlder wsX5_newest := goodIn_r _ [23, 24, 25, 4, 26, 27, 28, 29, 30, 31, 32, 33, 14, 34, 35, 36, 37, 38, 39, 40, 41, 42, 43, 44, 45, 13, 15, 16, 17, 18, 19, 20, 63, 64, 65] (by decide +kernel) (by decide +kernel)
set_option maxRecDepth 20000 in
theorem gX5_writeOverOlder_X5_newest : GoodIn wsX5_writeOverOlder (va_wsS RX5 30 yX5_newest wsX5_newest) := goodIn_app (goodIn_of _ (by decide +kernel)) ggX5_writeOverOlder_X5_newest
set_option maxRecDepth 20000 in
theorem ggX5_writeOverOlder_X5_startOf : GoodIn wsX5_writeOverOlder wsX5_startOf := goodIn_r _ [30] (by decide +kernel) (by decide +kernel)
set_option maxRecDepth 20000 in
theorem gX5_writeOverOlder_X5_startOf : GoodIn wsX5_writeOverOlder (va_wsS RX5 34 yX5_startOf wsX5_startOf) := goodIn_app (goodIn_of _ (by decide +kernel)) ggX5_writeOverOlder_X5_startOf
set_option maxRecDepth 20000 in
theorem ggX5_writeOverOlder_X0_writeRow : GoodIn wsX5_writeOverOlder wsX0_writeRow := goodIn_r _ [49, 50, 51, 52, 14, 53, 54, 55, 56, 57, 58, 59, 35, 36, 37, 38, 39, 63, 64, 65] (by decide +kernel) (by decide +kernel)
set_option maxRecDepth 20000 in
theorem gX5_writeOverOlder_X0_writeRow : GoodIn wsX5_writeOverOlder (wsV RX5 38 RX0 yX0_writeRow wsX0_writeRow) := goodIn_app (goodIn_of _ (by decide +kernel)) ggX5_writeOverOlder_X0_writeRow
theorem dX5_writeOverOlder_0 : decode cX5_writeOverOlder 0 = .ok (.aload_n 0, 1) := by decide +kernel
theorem dX5_writeOverOlder_1 : decode cX5_writeOverOlder 1 = .ok (.getfield 11, 3) := by decide +kernel
theorem dX5_writeOverOlder_4 : decode cX5_writeOverOlder 4 = .ok (.iconst 0, 1) := by decide +kernel
theorem dX5_writeOverOlder_5 : decode cX5_writeOverOlder 5 = .ok (.iload_n 2, 1) := by decide +kernel
theorem dX5_writeOverOlder_6 : decode cX5_writeOverOlder 6 = .ok (.iastore, 1) := by decide +kernel
theorem dX5_writeOverOlder_7 : decode cX5_writeOverOlder 7 = .ok (.iconst 0, 1) := by decide +kernel
theorem dX5_writeOverOlder_8 : decode cX5_writeOverOlder 8 = .ok (.istore 4, 2) := by decide +kernel
theorem dX5_writeOverOlder_10 : decode cX5_writeOverOlder 10 = .ok (.iload 4, 2) := by decide +kernel
theorem dX5_writeOverOlder_12 : decode cX5_writeOverOlder 12 = .ok (.bipush 12, 2) := by decide +kernel
theorem dX5_writeOverOlder_14 : decode cX5_writeOverOlder 14 = .ok (.if_icmp .ge 44, 3) := by decide +kernel
theorem dX5_writeOverOlder_17 : decode cX5_writeOverOlder 17 = .ok (.iconst 0, 1) := by decide +kernel
theorem dX5_writeOverOlder_18 : decode cX5_writeOverOlder 18 = .ok (.istore 5, 2) := by decide +kernel
theorem dX5_writeOverOlder_20 : decode cX5_writeOverOlder 20 = .ok (.iload 5, 2) := by decide +kernel
theorem dX5_writeOverOlder_22 : decode cX5_writeOverOlder 22 = .ok (.iconst 2, 1) := by decide +kernel
theorem dX5_writeOverOlder_23 : decode cX5_writeOverOlder 23 = .ok (.if_icmp .ge 29, 3) := by decide +kernel
theorem dX5_writeOverOlder_26 : decode cX5_writeOverOlder 26 = .ok (.aload_n 0, 1) := by decide +kernel
theorem dX5_writeOverOlder_27 : decode cX5_writeOverOlder 27 = .ok (.getfield 11, 3) := by decide +kernel
theorem dX5_writeOverOlder_30 : decode cX5_writeOverOlder 30 = .ok (.iload 4, 2) := by decide +kernel
theorem dX5_writeOverOlder_32 : decode cX5_writeOverOlder 32 = .ok (.iload 5, 2) := by decide +kernel
theorem dX5_writeOverOlder_34 : decode cX5_writeOverOlder 34 = .ok (.invokestatic 15, 3) := by decide +kernel
theorem dX5_writeOverOlder_37 : decode cX5_writeOverOlder 37 = .ok (.aload_n 3, 1) := by decide +kernel
theorem dX5_writeOverOlder_38 : decode cX5_writeOverOlder 38 = .ok (.iload 4, 2) := by decide +kernel
theorem dX5_writeOverOlder_40 : decode cX5_writeOverOlder 40 = .ok (.iload 5, 2) := by decide +kernel
theorem dX5_writeOverOlder_42 : decode cX5_writeOverOlder 42 = .ok (.invokevirtual 19, 3) := by decide +kernel
theorem dX5_writeOverOlder_45 : decode cX5_writeOverOlder 45 = .ok (.iastore, 1) := by decide +kernel
theorem dX5_writeOverOlder_46 : decode cX5_writeOverOlder 46 = .ok (.iinc 5 1, 3) := by decide +kernel
theorem dX5_writeOverOlder_49 : decode cX5_writeOverOlder 49 = .ok (.goto (-29), 3) := by decide +kernel
theorem dX5_writeOverOlder_52 : decode cX5_writeOverOlder 52 = .ok (.iinc 4 1, 3) := by decide +kernel
theorem dX5_writeOverOlder_55 : decode cX5_writeOverOlder 55 = .ok (.goto (-45), 3) := by decide +kernel
theorem dX5_writeOverOlder_58 : decode cX5_writeOverOlder 58 = .ok (.aload_n 0, 1) := by decide +kernel
theorem dX5_writeOverOlder_59 : decode cX5_writeOverOlder 59 = .ok (.getfield 11, 3) := by decide +kernel
theorem dX5_writeOverOlder_62 : decode cX5_writeOverOlder 62 = .ok (.bipush 25, 2) := by decide +kernel
theorem dX5_writeOverOlder_64 : decode cX5_writeOverOlder 64 = .ok (.aload_n 0, 1) := by decide +kernel
theorem dX5_writeOverOlder_65 : decode cX5_writeOverOlder 65 = .ok (.getfield 11, 3) := by decide +kernel
theorem dX5_writeOverOlder_68 : decode cX5_writeOverOlder 68 = .ok (.iconst 0, 1) := by decide +kernel
theorem dX5_writeOverOlder_69 : decode cX5_writeOverOlder 69 = .ok (.bipush 25, 2) := by decide +kernel
theorem dX5_writeOverOlder_71 : decode cX5_writeOverOlder 71 = .ok (.iconst 1, 1) := by decide +kernel
theorem dX5_writeOverOlder_72 : decode cX5_writeOverOlder 72 = .ok (.invokestatic 24, 3) := by decide +kernel
theorem dX5_writeOverOlder_75 : decode cX5_writeOverOlder 75 = .ok (.iastore, 1) := by decide +kernel
theorem dX5_writeOverOlder_76 : decode cX5_writeOverOlder 76 = .ok (.aload_n 1, 1) := by decide +kernel
theorem dX5_writeOverOlder_77 : decode cX5_writeOverOlder 77 = .ok (.invokestatic 30, 3) := by decide +kernel
theorem dX5_writeOverOlder_80 : decode cX5_writeOverOlder 80 = .ok (.iconst 1, 1) := by decide +kernel
theorem dX5_writeOverOlder_81 : decode cX5_writeOverOlder 81 = .ok (.if_icmp .ne 7, 3) := by decide +kernel
theorem dX5_writeOverOlder_84 : decode cX5_writeOverOlder 84 = .ok (.iconst 0, 1) := by decide +kernel
theorem dX5_writeOverOlder_85 : decode cX5_writeOverOlder 85 = .ok (.goto 4, 3) := by decide +kernel
theorem dX5_writeOverOlder_88 : decode cX5_writeOverOlder 88 = .ok (.iconst 1, 1) := by decide +kernel
theorem dX5_writeOverOlder_89 : decode cX5_writeOverOlder 89 = .ok (.istore 4, 2) := by decide +kernel
theorem dX5_writeOverOlder_91 : decode cX5_writeOverOlder 91 = .ok (.aload_n 1, 1) := by decide +kernel
theorem dX5_writeOverOlder_92 : decode cX5_writeOverOlder 92 = .ok (.iload 4, 2) := by decide +kernel
theorem dX5_writeOverOlder_94 : decode cX5_writeOverOlder 94 = .ok (.invokestatic 34, 3) := by decide +kernel
theorem dX5_writeOverOlder_97 : decode cX5_writeOverOlder 97 = .ok (.aload_n 0, 1) := by decide +kernel
theorem dX5_writeOverOlder_98 : decode cX5_writeOverOlder 98 = .ok (.getfield 11, 3) := by decide +kernel
theorem dX5_writeOverOlder_101 : decode cX5_writeOverOlder 101 = .ok (.invokevirtual 38, 3) := by decide +kernel
theorem dX5_writeOverOlder_104 : decode cX5_writeOverOlder 104 = .ok (.ireturn, 1) := by decide +kernel
set_option maxRecDepth 20000 in
theorem ggX5_loadNewest_X5_newest : GoodIn wsX5_loadNewest wsX5_newest := goodIn_r _ [4, 5, 6, 3, 7, 8, 9, 10, 11, 12, 13, 14, 15, 16, 17, 18, 19, 20, 21, 22, 23, 24, 25, 26, 27, 28, 29, 30, 31, 32, 33, 34, 53, 54, 55] (by decide +kernel) (by decide +kernel)
set_option maxRecDepth 20000 in
theorem gX5_loadNewest_X5_newest : GoodIn wsX5_loadNewest (va_wsS RX5 30 yX5_newest wsX5_newest) := goodIn_app (goodIn_of _ (by decide +kernel)) ggX5_loadNewest_X5_newest
set_option maxRecDepth 20000 in
theorem ggX5_loadNewest_X2_clear : GoodIn wsX5_loadNewest wsX2_clear := goodIn_r _ [39, 40, 41, 42, 38, 43, 44, 45, 56, 57] (by decide +kernel) (by decide +kernel)
set_option maxRecDepth 20000 in
theorem gX5_loadNewest_X2_clear : GoodIn wsX5_loadNewest (wsV RX5 42 RX2 yX2_clear wsX2_clear) := goodIn_app (goodIn_of _ (by decide +kernel)) ggX5_loadNewest_X2_clear
set_option maxRecDepth 20000 in
theorem ggX5_loadNewest_X5_startOf : GoodIn wsX5_loadNewest wsX5_startOf := goodIn_r _ [11] (by decide +kernel) (by decide +kernel)
set_option maxRecDepth 20000 in
theorem gX5_loadNewest_X5_startOf : GoodIn wsX5_loadNewest (va_wsS RX5 34 yX5_startOf wsX5_startOf) := goodIn_app (goodIn_of _ (by decide +kernel)) ggX5_loadNewest_X5_startOf
set_option maxRecDepth 20000 in
theorem ggX5_loadNewest_X5_placeOf : GoodIn wsX5_loadNewest wsX5_placeOf := goodIn_r _ [48] (by decide +kernel) (by decide +kernel)
set_option maxRecDepth 20000 in
theorem gX5_loadNewest_X5_placeOf : GoodIn wsX5_loadNewest (va_wsS RX5 15 yX5_placeOf wsX5_placeOf) := goodIn_app (goodIn_of _ (by decide +kernel)) ggX5_loadNewest_X5_placeOf
set_option maxRecDepth 20000 in
theorem ggX5_loadNewest_X0_at : GoodIn wsX5_loadNewest wsX0_at := goodIn_r _ [16, 17, 18, 19, 20, 15, 21, 53, 54, 55] (by decide +kernel) (by decide +kernel)
set_option maxRecDepth 20000 in
theorem gX5_loadNewest_X0_at : GoodIn wsX5_loadNewest (wsV RX5 45 RX0 yX0_at wsX0_at) := goodIn_app (goodIn_of _ (by decide +kernel)) ggX5_loadNewest_X0_at
set_option maxRecDepth 20000 in
theorem ggX5_loadNewest_X2_unpack : GoodIn wsX5_loadNewest wsX2_unpack := goodIn_r _ [52, 40, 41, 42, 38, 43, 44, 45, 56, 57] (by decide +kernel) (by decide +kernel)
set_option maxRecDepth 20000 in
theorem gX5_loadNewest_X2_unpack : GoodIn wsX5_loadNewest (wsV RX5 48 RX2 yX2_unpack wsX2_unpack) := goodIn_app (goodIn_of _ (by decide +kernel)) ggX5_loadNewest_X2_unpack
theorem dX5_loadNewest_0 : decode cX5_loadNewest 0 = .ok (.aload_n 0, 1) := by decide +kernel
theorem dX5_loadNewest_1 : decode cX5_loadNewest 1 = .ok (.invokestatic 30, 3) := by decide +kernel
theorem dX5_loadNewest_4 : decode cX5_loadNewest 4 = .ok (.istore_n 2, 1) := by decide +kernel
theorem dX5_loadNewest_5 : decode cX5_loadNewest 5 = .ok (.iload_n 2, 1) := by decide +kernel
theorem dX5_loadNewest_6 : decode cX5_loadNewest 6 = .ok (.iconst (-1), 1) := by decide +kernel
theorem dX5_loadNewest_7 : decode cX5_loadNewest 7 = .ok (.if_icmp .ne 9, 3) := by decide +kernel
theorem dX5_loadNewest_10 : decode cX5_loadNewest 10 = .ok (.aload_n 1, 1) := by decide +kernel
theorem dX5_loadNewest_11 : decode cX5_loadNewest 11 = .ok (.invokevirtual 42, 3) := by decide +kernel
theorem dX5_loadNewest_14 : decode cX5_loadNewest 14 = .ok (.iconst 0, 1) := by decide +kernel
theorem dX5_loadNewest_15 : decode cX5_loadNewest 15 = .ok (.ireturn, 1) := by decide +kernel
theorem dX5_loadNewest_16 : decode cX5_loadNewest 16 = .ok (.iload_n 2, 1) := by decide +kernel
theorem dX5_loadNewest_17 : decode cX5_loadNewest 17 = .ok (.invokestatic 34, 3) := by decide +kernel
theorem dX5_loadNewest_20 : decode cX5_loadNewest 20 = .ok (.istore_n 3, 1) := by decide +kernel
theorem dX5_loadNewest_21 : decode cX5_loadNewest 21 = .ok (.iconst 0, 1) := by decide +kernel
theorem dX5_loadNewest_22 : decode cX5_loadNewest 22 = .ok (.istore 4, 2) := by decide +kernel
theorem dX5_loadNewest_24 : decode cX5_loadNewest 24 = .ok (.iload 4, 2) := by decide +kernel
theorem dX5_loadNewest_26 : decode cX5_loadNewest 26 = .ok (.bipush 12, 2) := by decide +kernel
theorem dX5_loadNewest_28 : decode cX5_loadNewest 28 = .ok (.if_icmp .ge 45, 3) := by decide +kernel
theorem dX5_loadNewest_31 : decode cX5_loadNewest 31 = .ok (.iconst 0, 1) := by decide +kernel
theorem dX5_loadNewest_32 : decode cX5_loadNewest 32 = .ok (.istore 5, 2) := by decide +kernel
theorem dX5_loadNewest_34 : decode cX5_loadNewest 34 = .ok (.iload 5, 2) := by decide +kernel
theorem dX5_loadNewest_36 : decode cX5_loadNewest 36 = .ok (.iconst 2, 1) := by decide +kernel
theorem dX5_loadNewest_37 : decode cX5_loadNewest 37 = .ok (.if_icmp .ge 30, 3) := by decide +kernel
theorem dX5_loadNewest_40 : decode cX5_loadNewest 40 = .ok (.aload_n 1, 1) := by decide +kernel
theorem dX5_loadNewest_41 : decode cX5_loadNewest 41 = .ok (.iload 4, 2) := by decide +kernel
theorem dX5_loadNewest_43 : decode cX5_loadNewest 43 = .ok (.iload 5, 2) := by decide +kernel
theorem dX5_loadNewest_45 : decode cX5_loadNewest 45 = .ok (.aload_n 0, 1) := by decide +kernel
theorem dX5_loadNewest_46 : decode cX5_loadNewest 46 = .ok (.iload_n 3, 1) := by decide +kernel
theorem dX5_loadNewest_47 : decode cX5_loadNewest 47 = .ok (.iload 4, 2) := by decide +kernel
theorem dX5_loadNewest_49 : decode cX5_loadNewest 49 = .ok (.iload 5, 2) := by decide +kernel
theorem dX5_loadNewest_51 : decode cX5_loadNewest 51 = .ok (.invokestatic 15, 3) := by decide +kernel
theorem dX5_loadNewest_54 : decode cX5_loadNewest 54 = .ok (.iadd, 1) := by decide +kernel
theorem dX5_loadNewest_55 : decode cX5_loadNewest 55 = .ok (.invokevirtual 45, 3) := by decide +kernel
theorem dX5_loadNewest_58 : decode cX5_loadNewest 58 = .ok (.invokevirtual 48, 3) := by decide +kernel
theorem dX5_loadNewest_61 : decode cX5_loadNewest 61 = .ok (.iinc 5 1, 3) := by decide +kernel
theorem dX5_loadNewest_64 : decode cX5_loadNewest 64 = .ok (.goto (-30), 3) := by decide +kernel
theorem dX5_loadNewest_67 : decode cX5_loadNewest 67 = .ok (.iinc 4 1, 3) := by decide +kernel
theorem dX5_loadNewest_70 : decode cX5_loadNewest 70 = .ok (.goto (-46), 3) := by decide +kernel
theorem dX5_loadNewest_73 : decode cX5_loadNewest 73 = .ok (.aload_n 0, 1) := by decide +kernel
theorem dX5_loadNewest_74 : decode cX5_loadNewest 74 = .ok (.iload_n 3, 1) := by decide +kernel
theorem dX5_loadNewest_75 : decode cX5_loadNewest 75 = .ok (.invokevirtual 45, 3) := by decide +kernel
theorem dX5_loadNewest_78 : decode cX5_loadNewest 78 = .ok (.ireturn, 1) := by decide +kernel
set_option maxRecDepth 20000 in
theorem ggX5_newest_X5_isGood : GoodIn wsX5_newest wsX5_isGood := goodIn_r _ [4, 5, 6, 7, 3, 8, 9, 10, 11, 12, 13, 14, 15, 16, 17, 18, 19, 20, 21, 22, 23, 24, 25, 26, 27, 28, 29, 30, 31, 32, 33, 34] (by decide +kernel) (by decide +kernel)
set_option maxRecDepth 20000 in
theorem gX5_newest_X5_isGood : GoodIn wsX5_newest (va_wsS RX5 52 yX5_isGood wsX5_isGood) := goodIn_app (goodIn_of _ (by decide +kernel)) ggX5_newest_X5_isGood
set_option maxRecDepth 20000 in
theorem ggX5_newest_X5_startOf : GoodIn wsX5_newest wsX5_startOf := goodIn_r _ [8] (by decide +kernel) (by decide +kernel)
set_option maxRecDepth 20000 in
theorem gX5_newest_X5_startOf : GoodIn wsX5_newest (va_wsS RX5 34 yX5_startOf wsX5_startOf) := goodIn_app (goodIn_of _ (by decide +kernel)) ggX5_newest_X5_startOf
set_option maxRecDepth 20000 in
theorem ggX5_newest_X0_at : GoodIn wsX5_newest wsX0_at := goodIn_r _ [13, 14, 15, 16, 17, 12, 18, 32, 33, 34] (by decide +kernel) (by decide +kernel)
set_option maxRecDepth 20000 in
theorem gX5_newest_X0_at : GoodIn wsX5_newest (wsV RX5 45 RX0 yX0_at wsX0_at) := goodIn_app (goodIn_of _ (by decide +kernel)) ggX5_newest_X0_at
theorem dX5_newest_0 : decode cX5_newest 0 = .ok (.aload_n 0, 1) := by decide +kernel
theorem dX5_newest_1 : decode cX5_newest 1 = .ok (.iconst 0, 1) := by decide +kernel
theorem dX5_newest_2 : decode cX5_newest 2 = .ok (.invokestatic 52, 3) := by decide +kernel
theorem dX5_newest_5 : decode cX5_newest 5 = .ok (.istore_n 1, 1) := by decide +kernel
theorem dX5_newest_6 : decode cX5_newest 6 = .ok (.aload_n 0, 1) := by decide +kernel
theorem dX5_newest_7 : decode cX5_newest 7 = .ok (.iconst 1, 1) := by decide +kernel
theorem dX5_newest_8 : decode cX5_newest 8 = .ok (.invokestatic 52, 3) := by decide +kernel
theorem dX5_newest_11 : decode cX5_newest 11 = .ok (.istore_n 2, 1) := by decide +kernel
theorem dX5_newest_12 : decode cX5_newest 12 = .ok (.iload_n 1, 1) := by decide +kernel
theorem dX5_newest_13 : decode cX5_newest 13 = .ok (.ifCond .eq 32, 3) := by decide +kernel
theorem dX5_newest_16 : decode cX5_newest 16 = .ok (.iload_n 2, 1) := by decide +kernel
theorem dX5_newest_17 : decode cX5_newest 17 = .ok (.ifCond .eq 28, 3) := by decide +kernel
theorem dX5_newest_20 : decode cX5_newest 20 = .ok (.aload_n 0, 1) := by decide +kernel
theorem dX5_newest_21 : decode cX5_newest 21 = .ok (.iconst 1, 1) := by decide +kernel
theorem dX5_newest_22 : decode cX5_newest 22 = .ok (.invokestatic 34, 3) := by decide +kernel
theorem dX5_newest_25 : decode cX5_newest 25 = .ok (.invokevirtual 45, 3) := by decide +kernel
theorem dX5_newest_28 : decode cX5_newest 28 = .ok (.aload_n 0, 1) := by decide +kernel
theorem dX5_newest_29 : decode cX5_newest 29 = .ok (.iconst 0, 1) := by decide +kernel
theorem dX5_newest_30 : decode cX5_newest 30 = .ok (.invokestatic 34, 3) := by decide +kernel
theorem dX5_newest_33 : decode cX5_newest 33 = .ok (.invokevirtual 45, 3) := by decide +kernel
theorem dX5_newest_36 : decode cX5_newest 36 = .ok (.if_icmp .le 7, 3) := by decide +kernel
theorem dX5_newest_39 : decode cX5_newest 39 = .ok (.iconst 1, 1) := by decide +kernel
theorem dX5_newest_40 : decode cX5_newest 40 = .ok (.goto 4, 3) := by decide +kernel
theorem dX5_newest_43 : decode cX5_newest 43 = .ok (.iconst 0, 1) := by decide +kernel
theorem dX5_newest_44 : decode cX5_newest 44 = .ok (.ireturn, 1) := by decide +kernel
theorem dX5_newest_45 : decode cX5_newest 45 = .ok (.iload_n 1, 1) := by decide +kernel
theorem dX5_newest_46 : decode cX5_newest 46 = .ok (.ifCond .eq 5, 3) := by decide +kernel
theorem dX5_newest_49 : decode cX5_newest 49 = .ok (.iconst 0, 1) := by decide +kernel
theorem dX5_newest_50 : decode cX5_newest 50 = .ok (.ireturn, 1) := by decide +kernel
theorem dX5_newest_51 : decode cX5_newest 51 = .ok (.iload_n 2, 1) := by decide +kernel
theorem dX5_newest_52 : decode cX5_newest 52 = .ok (.ifCond .eq 7, 3) := by decide +kernel
theorem dX5_newest_55 : decode cX5_newest 55 = .ok (.iconst 1, 1) := by decide +kernel
theorem dX5_newest_56 : decode cX5_newest 56 = .ok (.goto 4, 3) := by decide +kernel
theorem dX5_newest_59 : decode cX5_newest 59 = .ok (.iconst (-1), 1) := by decide +kernel
theorem dX5_newest_60 : decode cX5_newest 60 = .ok (.ireturn, 1) := by decide +kernel
set_option maxRecDepth 20000 in
theorem ggX5_isGood_X5_startOf : GoodIn wsX5_isGood wsX5_startOf := goodIn_r _ [5] (by decide +kernel) (by decide +kernel)
set_option maxRecDepth 20000 in
theorem gX5_isGood_X5_startOf : GoodIn wsX5_isGood (va_wsS RX5 34 yX5_startOf wsX5_startOf) := goodIn_app (goodIn_of _ (by decide +kernel)) ggX5_isGood_X5_startOf
set_option maxRecDepth 20000 in
theorem ggX5_isGood_X0_at : GoodIn wsX5_isGood wsX0_at := goodIn_r _ [10, 11, 12, 13, 14, 9, 15, 29, 30, 31] (by decide +kernel) (by decide +kernel)
set_option maxRecDepth 20000 in
theorem gX5_isGood_X0_at : GoodIn wsX5_isGood (wsV RX5 45 RX0 yX0_at wsX0_at) := goodIn_app (goodIn_of _ (by decide +kernel)) ggX5_isGood_X0_at
set_option maxRecDepth 20000 in
theorem ggX5_isGood_X0_isCheckRight : GoodIn wsX5_isGood wsX0_isCheckRight := goodIn_r _ [19, 11, 20, 7, 8, 9, 10, 12, 13, 14, 15, 21, 22, 23, 24, 25, 26, 27, 28, 29, 30, 31] (by decide +kernel) (by decide +kernel)
set_option maxRecDepth 20000 in
theorem gX5_isGood_X0_isCheckRight : GoodIn wsX5_isGood (wsV RX5 57 RX0 yX0_isCheckRight wsX0_isCheckRight) := goodIn_app (goodIn_of _ (by decide +kernel)) ggX5_isGood_X0_isCheckRight
theorem dX5_isGood_0 : decode cX5_isGood 0 = .ok (.iload_n 1, 1) := by decide +kernel
theorem dX5_isGood_1 : decode cX5_isGood 1 = .ok (.invokestatic 34, 3) := by decide +kernel
theorem dX5_isGood_4 : decode cX5_isGood 4 = .ok (.istore_n 2, 1) := by decide +kernel
theorem dX5_isGood_5 : decode cX5_isGood 5 = .ok (.aload_n 0, 1) := by decide +kernel
theorem dX5_isGood_6 : decode cX5_isGood 6 = .ok (.iload_n 2, 1) := by decide +kernel
theorem dX5_isGood_7 : decode cX5_isGood 7 = .ok (.invokevirtual 45, 3) := by decide +kernel
theorem dX5_isGood_10 : decode cX5_isGood 10 = .ok (.istore_n 3, 1) := by decide +kernel
theorem dX5_isGood_11 : decode cX5_isGood 11 = .ok (.iload_n 3, 1) := by decide +kernel
theorem dX5_isGood_12 : decode cX5_isGood 12 = .ok (.ifCond .lt 24, 3) := by decide +kernel
theorem dX5_isGood_15 : decode cX5_isGood 15 = .ok (.iload_n 3, 1) := by decide +kernel
theorem dX5_isGood_16 : decode cX5_isGood 16 = .ok (.ldc 56, 2) := by decide +kernel
theorem dX5_isGood_18 : decode cX5_isGood 18 = .ok (.if_icmp .gt 18, 3) := by decide +kernel
theorem dX5_isGood_21 : decode cX5_isGood 21 = .ok (.aload_n 0, 1) := by decide +kernel
theorem dX5_isGood_22 : decode cX5_isGood 22 = .ok (.iload_n 2, 1) := by decide +kernel
theorem dX5_isGood_23 : decode cX5_isGood 23 = .ok (.bipush 25, 2) := by decide +kernel
theorem dX5_isGood_25 : decode cX5_isGood 25 = .ok (.iconst 1, 1) := by decide +kernel
theorem dX5_isGood_26 : decode cX5_isGood 26 = .ok (.invokevirtual 57, 3) := by decide +kernel
theorem dX5_isGood_29 : decode cX5_isGood 29 = .ok (.ifCond .eq 7, 3) := by decide +kernel
theorem dX5_isGood_32 : decode cX5_isGood 32 = .ok (.iconst 1, 1) := by decide +kernel
theorem dX5_isGood_33 : decode cX5_isGood 33 = .ok (.goto 4, 3) := by decide +kernel
theorem dX5_isGood_36 : decode cX5_isGood 36 = .ok (.iconst 0, 1) := by decide +kernel
theorem dX5_isGood_37 : decode cX5_isGood 37 = .ok (.ireturn, 1) := by decide +kernel
theorem dX5_startOf_0 : decode cX5_startOf 0 = .ok (.bipush 26, 2) := by decide +kernel
theorem dX5_startOf_2 : decode cX5_startOf 2 = .ok (.iload_n 0, 1) := by decide +kernel
theorem dX5_startOf_3 : decode cX5_startOf 3 = .ok (.imul, 1) := by decide +kernel
theorem dX5_startOf_4 : decode cX5_startOf 4 = .ok (.ireturn, 1) := by decide +kernel
theorem dX5_placeOf_0 : decode cX5_placeOf 0 = .ok (.iconst 2, 1) := by decide +kernel
theorem dX5_placeOf_1 : decode cX5_placeOf 1 = .ok (.iload_n 0, 1) := by decide +kernel
theorem dX5_placeOf_2 : decode cX5_placeOf 2 = .ok (.imul, 1) := by decide +kernel
theorem dX5_placeOf_3 : decode cX5_placeOf 3 = .ok (.iconst 1, 1) := by decide +kernel
theorem dX5_placeOf_4 : decode cX5_placeOf 4 = .ok (.iadd, 1) := by decide +kernel
theorem dX5_placeOf_5 : decode cX5_placeOf 5 = .ok (.iload_n 1, 1) := by decide +kernel
theorem dX5_placeOf_6 : decode cX5_placeOf 6 = .ok (.iadd, 1) := by decide +kernel
theorem dX5_placeOf_7 : decode cX5_placeOf 7 = .ok (.ireturn, 1) := by decide +kernel
set_option maxRecDepth 20000 in
theorem ggX6_init_X0_init : GoodIn wsX6_init wsX0_init := goodIn_r _ [32, 33, 2, 3, 34, 35, 36, 37, 38, 39, 6, 40, 41, 42, 43, 44, 45, 75, 76, 77] (by decide +kernel) (by decide +kernel)
set_option maxRecDepth 20000 in
theorem gX6_init_X0_init : GoodIn wsX6_init (wsX0_init) := ggX6_init_X0_init
set_option maxRecDepth 20000 in
theorem ggX6_init_X5_init : GoodIn wsX6_init wsX5_init := goodIn_r _ [47, 48, 2, 3, 34, 49, 86] (by decide +kernel) (by decide +kernel)
set_option maxRecDepth 20000 in
theorem gX6_init_X5_init_n18 : GoodIn wsX6_init (wsX5_init) := ggX6_init_X5_init
set_option maxRecDepth 20000 in
theorem ggX6_init_X4_init : GoodIn wsX6_init wsX4_init := goodIn_r _ [51, 52, 2, 3, 34, 53, 87] (by decide +kernel) (by decide +kernel)
set_option maxRecDepth 20000 in
theorem gX6_init_X4_init_n25 : GoodIn wsX6_init (wsX4_init) := ggX6_init_X4_init
set_option maxRecDepth 20000 in
theorem ggX6_init_X2_init : GoodIn wsX6_init wsX2_init := goodIn_r _ [55, 56, 2, 3, 57, 34, 58, 59, 88, 89] (by decide +kernel) (by decide +kernel)
set_option maxRecDepth 20000 in
theorem gX6_init_X2_init_n32 : GoodIn wsX6_init (wsX2_init) := ggX6_init_X2_init
set_option maxRecDepth 20000 in
theorem ggX6_init_X1_init : GoodIn wsX6_init wsX1_init := goodIn_r _ [61, 62, 2, 3, 34, 63, 64, 65, 66, 90, 91, 92] (by decide +kernel) (by decide +kernel)
set_option maxRecDepth 20000 in
theorem gX6_init_X1_init_n39 : GoodIn wsX6_init (wsX1_init) := ggX6_init_X1_init
set_option maxRecDepth 20000 in
theorem ggX6_init_X3_init : GoodIn wsX6_init wsX3_init := goodIn_r _ [69, 70, 2, 3, 71, 72, 64, 73, 74, 21, 22, 60, 61, 62, 34, 63, 65, 66, 93, 94, 95, 90, 91, 92] (by decide +kernel) (by decide +kernel)
set_option maxRecDepth 20000 in
theorem gX6_init_X3_init : GoodIn wsX6_init (wsX3_init) := ggX6_init_X3_init
theorem dX6_init_0 : decode cX6_init 0 = .ok (.aload_n 0, 1) := by decide +kernel
theorem dX6_init_1 : decode cX6_init 1 = .ok (.invokespecial 1, 3) := by decide +kernel
theorem dX6_init_4 : decode cX6_init 4 = .ok (.aload_n 0, 1) := by decide +kernel
theorem dX6_init_5 : decode cX6_init 5 = .ok (.new 7, 3) := by decide +kernel
theorem dX6_init_8 : decode cX6_init 8 = .ok (.dup, 1) := by decide +kernel
theorem dX6_init_9 : decode cX6_init 9 = .ok (.invokespecial 9, 3) := by decide +kernel
theorem dX6_init_12 : decode cX6_init 12 = .ok (.putfield 10, 3) := by decide +kernel
theorem dX6_init_15 : decode cX6_init 15 = .ok (.aload_n 0, 1) := by decide +kernel
theorem dX6_init_16 : decode cX6_init 16 = .ok (.new 16, 3) := by decide +kernel
theorem dX6_init_19 : decode cX6_init 19 = .ok (.dup, 1) := by decide +kernel
theorem dX6_init_20 : decode cX6_init 20 = .ok (.invokespecial 18, 3) := by decide +kernel
theorem dX6_init_23 : decode cX6_init 23 = .ok (.putfield 19, 3) := by decide +kernel
theorem dX6_init_26 : decode cX6_init 26 = .ok (.aload_n 0, 1) := by decide +kernel
theorem dX6_init_27 : decode cX6_init 27 = .ok (.new 23, 3) := by decide +kernel
theorem dX6_init_30 : decode cX6_init 30 = .ok (.dup, 1) := by decide +kernel
theorem dX6_init_31 : decode cX6_init 31 = .ok (.invokespecial 25, 3) := by decide +kernel
theorem dX6_init_34 : decode cX6_init 34 = .ok (.putfield 26, 3) := by decide +kernel
theorem dX6_init_37 : decode cX6_init 37 = .ok (.aload_n 0, 1) := by decide +kernel
theorem dX6_init_38 : decode cX6_init 38 = .ok (.new 30, 3) := by decide +kernel
theorem dX6_init_41 : decode cX6_init 41 = .ok (.dup, 1) := by decide +kernel
theorem dX6_init_42 : decode cX6_init 42 = .ok (.invokespecial 32, 3) := by decide +kernel
theorem dX6_init_45 : decode cX6_init 45 = .ok (.putfield 33, 3) := by decide +kernel
theorem dX6_init_48 : decode cX6_init 48 = .ok (.aload_n 0, 1) := by decide +kernel
theorem dX6_init_49 : decode cX6_init 49 = .ok (.new 37, 3) := by decide +kernel
theorem dX6_init_52 : decode cX6_init 52 = .ok (.dup, 1) := by decide +kernel
theorem dX6_init_53 : decode cX6_init 53 = .ok (.invokespecial 39, 3) := by decide +kernel
theorem dX6_init_56 : decode cX6_init 56 = .ok (.putfield 40, 3) := by decide +kernel
theorem dX6_init_59 : decode cX6_init 59 = .ok (.aload_n 0, 1) := by decide +kernel
theorem dX6_init_60 : decode cX6_init 60 = .ok (.new 44, 3) := by decide +kernel
theorem dX6_init_63 : decode cX6_init 63 = .ok (.dup, 1) := by decide +kernel
theorem dX6_init_64 : decode cX6_init 64 = .ok (.invokespecial 46, 3) := by decide +kernel
theorem dX6_init_67 : decode cX6_init 67 = .ok (.putfield 47, 3) := by decide +kernel
theorem dX6_init_70 : decode cX6_init 70 = .ok (.aload_n 0, 1) := by decide +kernel
theorem dX6_init_71 : decode cX6_init 71 = .ok (.iconst 0, 1) := by decide +kernel
theorem dX6_init_72 : decode cX6_init 72 = .ok (.putfield 51, 3) := by decide +kernel
theorem dX6_init_75 : decode cX6_init 75 = .ok (.aload_n 0, 1) := by decide +kernel
theorem dX6_init_76 : decode cX6_init 76 = .ok (.iconst 0, 1) := by decide +kernel
theorem dX6_init_77 : decode cX6_init 77 = .ok (.putfield 55, 3) := by decide +kernel
theorem dX6_init_80 : decode cX6_init 80 = .ok (.return_, 1) := by decide +kernel
set_option maxRecDepth 20000 in
theorem ggX6_rate_X0_isPowered : GoodIn wsX6_rate wsX0_isPowered := goodIn_r _ [10, 11, 77, 78, 79] (by decide +kernel) (by decide +kernel)
set_option maxRecDepth 20000 in
theorem gX6_rate_X0_isPowered : GoodIn wsX6_rate (wsV RX6 58 RX0 yX0_isPowered wsX0_isPowered) := goodIn_app (goodIn_of _ (by decide +kernel)) ggX6_rate_X0_isPowered
set_option maxRecDepth 20000 in
theorem ggX6_rate_X6_isUser : GoodIn wsX6_rate wsX6_isUser := goodIn_r _ [15] (by decide +kernel) (by decide +kernel)
set_option maxRecDepth 20000 in
theorem gX6_rate_X6_isUser : GoodIn wsX6_rate (va_wsS RX6 62 yX6_isUser wsX6_isUser) := goodIn_app (goodIn_of _ (by decide +kernel)) ggX6_rate_X6_isUser
set_option maxRecDepth 20000 in
theorem ggX6_rate_X6_isItem : GoodIn wsX6_rate wsX6_isItem := goodIn_r _ [18] (by decide +kernel) (by decide +kernel)
set_option maxRecDepth 20000 in
theorem gX6_rate_X6_isItem : GoodIn wsX6_rate (va_wsS RX6 66 yX6_isItem wsX6_isItem) := goodIn_app (goodIn_of _ (by decide +kernel)) ggX6_rate_X6_isItem
set_option maxRecDepth 20000 in
theorem ggX6_rate_X4_writeRecord : GoodIn wsX6_rate wsX4_writeRecord := goodIn_r _ [23, 24, 25, 26, 9, 27, 28, 29, 30, 31, 32, 33, 34, 22, 35, 36, 37, 38, 39, 40, 41, 42, 43, 44, 45, 46, 47, 48, 11, 49, 50, 51, 52, 53, 54, 55, 56, 57, 80, 77, 78, 79] (by decide +kernel) (by decide +kernel)
set_option maxRecDepth 20000 in
theorem gX6_rate_X4_writeRecord : GoodIn wsX6_rate (wsV RX6 69 RX4 yX4_writeRecord wsX4_writeRecord) := goodIn_app (goodIn_of _ (by decide +kernel)) ggX6_rate_X4_writeRecord
set_option maxRecDepth 20000 in
theorem ggX6_rate_X2_at : GoodIn wsX6_rate wsX2_at := goodIn_r _ [62, 63, 81, 82] (by decide +kernel) (by decide +kernel)
set_option maxRecDepth 20000 in
theorem gX6_rate_X2_at : GoodIn wsX6_rate (wsV RX6 73 RX2 yX2_at wsX2_at) := goodIn_app (goodIn_of _ (by decide +kernel)) ggX6_rate_X2_at
set_option maxRecDepth 20000 in
theorem ggX6_rate_X2_set : GoodIn wsX6_rate wsX2_set := goodIn_r _ [67, 63, 68, 81, 82] (by decide +kernel) (by decide +kernel)
set_option maxRecDepth 20000 in
theorem gX6_rate_X2_set : GoodIn wsX6_rate (wsV RX6 77 RX2 yX2_set wsX2_set) := goodIn_app (goodIn_of _ (by decide +kernel)) ggX6_rate_X2_set
theorem dX6_rate_0 : decode cX6_rate 0 = .ok (.aload_n 0, 1) := by decide +kernel
theorem dX6_rate_1 : decode cX6_rate 1 = .ok (.getfield 10, 3) := by decide +kernel
theorem dX6_rate_4 : decode cX6_rate 4 = .ok (.invokevirtual 58, 3) := by decide +kernel
theorem dX6_rate_7 : decode cX6_rate 7 = .ok (.ifCond .ne 6, 3) := by decide +kernel
theorem dX6_rate_10 : decode cX6_rate 10 = .ok (.bipush (-3), 2) := by decide +kernel
theorem dX6_rate_12 : decode cX6_rate 12 = .ok (.ireturn, 1) := by decide +kernel
theorem dX6_rate_13 : decode cX6_rate 13 = .ok (.iload_n 1, 1) := by decide +kernel
theorem dX6_rate_14 : decode cX6_rate 14 = .ok (.invokestatic 62, 3) := by decide +kernel
theorem dX6_rate_17 : decode cX6_rate 17 = .ok (.ifCond .eq 19, 3) := by decide +kernel
theorem dX6_rate_20 : decode cX6_rate 20 = .ok (.iload_n 2, 1) := by decide +kernel
theorem dX6_rate_21 : decode cX6_rate 21 = .ok (.invokestatic 66, 3) := by decide +kernel
theorem dX6_rate_24 : decode cX6_rate 24 = .ok (.ifCond .eq 12, 3) := by decide +kernel
theorem dX6_rate_27 : decode cX6_rate 27 = .ok (.iload_n 3, 1) := by decide +kernel
theorem dX6_rate_28 : decode cX6_rate 28 = .ok (.ifCond .lt 8, 3) := by decide +kernel
theorem dX6_rate_31 : decode cX6_rate 31 = .ok (.iload_n 3, 1) := by decide +kernel
theorem dX6_rate_32 : decode cX6_rate 32 = .ok (.iconst 5, 1) := by decide +kernel
theorem dX6_rate_33 : decode cX6_rate 33 = .ok (.if_icmp .le 6, 3) := by decide +kernel
theorem dX6_rate_36 : decode cX6_rate 36 = .ok (.bipush (-2), 2) := by decide +kernel
theorem dX6_rate_38 : decode cX6_rate 38 = .ok (.ireturn, 1) := by decide +kernel
theorem dX6_rate_39 : decode cX6_rate 39 = .ok (.aload_n 0, 1) := by decide +kernel
theorem dX6_rate_40 : decode cX6_rate 40 = .ok (.getfield 51, 3) := by decide +kernel
theorem dX6_rate_43 : decode cX6_rate 43 = .ok (.aload_n 0, 1) := by decide +kernel
theorem dX6_rate_44 : decode cX6_rate 44 = .ok (.getfield 55, 3) := by decide +kernel
theorem dX6_rate_47 : decode cX6_rate 47 = .ok (.isub, 1) := by decide +kernel
theorem dX6_rate_48 : decode cX6_rate 48 = .ok (.bipush 40, 2) := by decide +kernel
theorem dX6_rate_50 : decode cX6_rate 50 = .ok (.if_icmp .lt 6, 3) := by decide +kernel
theorem dX6_rate_53 : decode cX6_rate 53 = .ok (.bipush (-4), 2) := by decide +kernel
theorem dX6_rate_55 : decode cX6_rate 55 = .ok (.ireturn, 1) := by decide +kernel
theorem dX6_rate_56 : decode cX6_rate 56 = .ok (.aload_n 0, 1) := by decide +kernel
theorem dX6_rate_57 : decode cX6_rate 57 = .ok (.getfield 26, 3) := by decide +kernel
theorem dX6_rate_60 : decode cX6_rate 60 = .ok (.aload_n 0, 1) := by decide +kernel
theorem dX6_rate_61 : decode cX6_rate 61 = .ok (.getfield 10, 3) := by decide +kernel
theorem dX6_rate_64 : decode cX6_rate 64 = .ok (.aload_n 0, 1) := by decide +kernel
theorem dX6_rate_65 : decode cX6_rate 65 = .ok (.getfield 51, 3) := by decide +kernel
theorem dX6_rate_68 : decode cX6_rate 68 = .ok (.iconst 1, 1) := by decide +kernel
theorem dX6_rate_69 : decode cX6_rate 69 = .ok (.iadd, 1) := by decide +kernel
theorem dX6_rate_70 : decode cX6_rate 70 = .ok (.iload_n 1, 1) := by decide +kernel
theorem dX6_rate_71 : decode cX6_rate 71 = .ok (.iload_n 2, 1) := by decide +kernel
theorem dX6_rate_72 : decode cX6_rate 72 = .ok (.iload_n 3, 1) := by decide +kernel
theorem dX6_rate_73 : decode cX6_rate 73 = .ok (.invokevirtual 69, 3) := by decide +kernel
theorem dX6_rate_76 : decode cX6_rate 76 = .ok (.ifCond .ne 6, 3) := by decide +kernel
theorem dX6_rate_79 : decode cX6_rate 79 = .ok (.bipush (-3), 2) := by decide +kernel
theorem dX6_rate_81 : decode cX6_rate 81 = .ok (.ireturn, 1) := by decide +kernel
theorem dX6_rate_82 : decode cX6_rate 82 = .ok (.aload_n 0, 1) := by decide +kernel
theorem dX6_rate_83 : decode cX6_rate 83 = .ok (.getfield 33, 3) := by decide +kernel
theorem dX6_rate_86 : decode cX6_rate 86 = .ok (.iload_n 1, 1) := by decide +kernel
theorem dX6_rate_87 : decode cX6_rate 87 = .ok (.iload_n 2, 1) := by decide +kernel
theorem dX6_rate_88 : decode cX6_rate 88 = .ok (.invokevirtual 73, 3) := by decide +kernel
theorem dX6_rate_91 : decode cX6_rate 91 = .ok (.istore 4, 2) := by decide +kernel
theorem dX6_rate_93 : decode cX6_rate 93 = .ok (.aload_n 0, 1) := by decide +kernel
theorem dX6_rate_94 : decode cX6_rate 94 = .ok (.getfield 33, 3) := by decide +kernel
theorem dX6_rate_97 : decode cX6_rate 97 = .ok (.iload_n 1, 1) := by decide +kernel
theorem dX6_rate_98 : decode cX6_rate 98 = .ok (.iload_n 2, 1) := by decide +kernel
theorem dX6_rate_99 : decode cX6_rate 99 = .ok (.iload_n 3, 1) := by decide +kernel
theorem dX6_rate_100 : decode cX6_rate 100 = .ok (.invokevirtual 77, 3) := by decide +kernel
theorem dX6_rate_103 : decode cX6_rate 103 = .ok (.aload_n 0, 1) := by decide +kernel
theorem dX6_rate_104 : decode cX6_rate 104 = .ok (.dup, 1) := by decide +kernel
theorem dX6_rate_105 : decode cX6_rate 105 = .ok (.getfield 51, 3) := by decide +kernel
theorem dX6_rate_108 : decode cX6_rate 108 = .ok (.iconst 1, 1) := by decide +kernel
theorem dX6_rate_109 : decode cX6_rate 109 = .ok (.iadd, 1) := by decide +kernel
theorem dX6_rate_110 : decode cX6_rate 110 = .ok (.putfield 51, 3) := by decide +kernel
theorem dX6_rate_113 : decode cX6_rate 113 = .ok (.iload 4, 2) := by decide +kernel
theorem dX6_rate_115 : decode cX6_rate 115 = .ok (.ireturn, 1) := by decide +kernel
set_option maxRecDepth 20000 in
theorem ggX6_snapshot_X0_isPowered : GoodIn wsX6_snapshot wsX0_isPowered := goodIn_r _ [10, 11, 81, 82, 83] (by decide +kernel) (by decide +kernel)
set_option maxRecDepth 20000 in
theorem gX6_snapshot_X0_isPowered : GoodIn wsX6_snapshot (wsV RX6 58 RX0 yX0_isPowered wsX0_isPowered) := goodIn_app (goodIn_of _ (by decide +kernel)) ggX6_snapshot_X0_isPowered
set_option maxRecDepth 20000 in
theorem ggX6_snapshot_X5_writeOverOlder : GoodIn wsX6_snapshot wsX5_writeOverOlder := goodIn_r _ [16, 17, 18, 19, 15, 20, 21, 22, 23, 24, 25, 26, 27, 28, 9, 29, 30, 31, 32, 33, 34, 35, 36, 37, 38, 39, 40, 41, 42, 43, 44, 45, 46, 47, 48, 49, 50, 51, 52, 53, 54, 55, 56, 57, 58, 59, 60, 61, 62, 63, 64, 65, 66, 67, 68, 11, 69, 70, 71, 72, 84, 85, 86, 81, 82, 83] (by decide +kernel) (by decide +kernel)
set_option maxRecDepth 20000 in
theorem gX6_snapshot_X5_writeOverOlder : GoodIn wsX6_snapshot (wsV RX6 81 RX5 yX5_writeOverOlder wsX5_writeOverOlder) := goodIn_app (goodIn_of _ (by decide +kernel)) ggX6_snapshot_X5_writeOverOlder
theorem dX6_snapshot_0 : decode cX6_snapshot 0 = .ok (.aload_n 0, 1) := by decide +kernel
theorem dX6_snapshot_1 : decode cX6_snapshot 1 = .ok (.getfield 10, 3) := by decide +kernel
theorem dX6_snapshot_4 : decode cX6_snapshot 4 = .ok (.invokevirtual 58, 3) := by decide +kernel
theorem dX6_snapshot_7 : decode cX6_snapshot 7 = .ok (.ifCond .ne 6, 3) := by decide +kernel
theorem dX6_snapshot_10 : decode cX6_snapshot 10 = .ok (.bipush (-3), 2) := by decide +kernel
theorem dX6_snapshot_12 : decode cX6_snapshot 12 = .ok (.ireturn, 1) := by decide +kernel
theorem dX6_snapshot_13 : decode cX6_snapshot 13 = .ok (.aload_n 0, 1) := by decide +kernel
theorem dX6_snapshot_14 : decode cX6_snapshot 14 = .ok (.getfield 19, 3) := by decide +kernel
theorem dX6_snapshot_17 : decode cX6_snapshot 17 = .ok (.aload_n 0, 1) := by decide +kernel
theorem dX6_snapshot_18 : decode cX6_snapshot 18 = .ok (.getfield 10, 3) := by decide +kernel
theorem dX6_snapshot_21 : decode cX6_snapshot 21 = .ok (.aload_n 0, 1) := by decide +kernel
theorem dX6_snapshot_22 : decode cX6_snapshot 22 = .ok (.getfield 51, 3) := by decide +kernel
theorem dX6_snapshot_25 : decode cX6_snapshot 25 = .ok (.aload_n 0, 1) := by decide +kernel
theorem dX6_snapshot_26 : decode cX6_snapshot 26 = .ok (.getfield 33, 3) := by decide +kernel
theorem dX6_snapshot_29 : decode cX6_snapshot 29 = .ok (.invokevirtual 81, 3) := by decide +kernel
theorem dX6_snapshot_32 : decode cX6_snapshot 32 = .ok (.ifCond .ne 6, 3) := by decide +kernel
theorem dX6_snapshot_35 : decode cX6_snapshot 35 = .ok (.bipush (-3), 2) := by decide +kernel
theorem dX6_snapshot_37 : decode cX6_snapshot 37 = .ok (.ireturn, 1) := by decide +kernel
theorem dX6_snapshot_38 : decode cX6_snapshot 38 = .ok (.aload_n 0, 1) := by decide +kernel
theorem dX6_snapshot_39 : decode cX6_snapshot 39 = .ok (.aload_n 0, 1) := by decide +kernel
theorem dX6_snapshot_40 : decode cX6_snapshot 40 = .ok (.getfield 51, 3) := by decide +kernel
theorem dX6_snapshot_43 : decode cX6_snapshot 43 = .ok (.putfield 55, 3) := by decide +kernel
theorem dX6_snapshot_46 : decode cX6_snapshot 46 = .ok (.bipush 26, 2) := by decide +kernel
theorem dX6_snapshot_48 : decode cX6_snapshot 48 = .ok (.ireturn, 1) := by decide +kernel
set_option maxRecDepth 20000 in
theorem ggX6_power_X0_failAfter : GoodIn wsX6_power wsX0_failAfter := goodIn_r _ [6, 7, 16, 17, 18] (by decide +kernel) (by decide +kernel)
set_option maxRecDepth 20000 in
theorem gX6_power_X0_failAfter : GoodIn wsX6_power (wsV RX6 85 RX0 yX0_failAfter wsX0_failAfter) := goodIn_app (goodIn_of _ (by decide +kernel)) ggX6_power_X0_failAfter
theorem dX6_power_0 : decode cX6_power 0 = .ok (.iload_n 1, 1) := by decide +kernel
theorem dX6_power_1 : decode cX6_power 1 = .ok (.iconst (-1), 1) := by decide +kernel
theorem dX6_power_2 : decode cX6_power 2 = .ok (.if_icmp .lt 9, 3) := by decide +kernel
theorem dX6_power_5 : decode cX6_power 5 = .ok (.iload_n 1, 1) := by decide +kernel
theorem dX6_power_6 : decode cX6_power 6 = .ok (.bipush 100, 2) := by decide +kernel
theorem dX6_power_8 : decode cX6_power 8 = .ok (.if_icmp .le 5, 3) := by decide +kernel
theorem dX6_power_11 : decode cX6_power 11 = .ok (.iconst 0, 1) := by decide +kernel
theorem dX6_power_12 : decode cX6_power 12 = .ok (.ireturn, 1) := by decide +kernel
theorem dX6_power_13 : decode cX6_power 13 = .ok (.aload_n 0, 1) := by decide +kernel
theorem dX6_power_14 : decode cX6_power 14 = .ok (.getfield 10, 3) := by decide +kernel
theorem dX6_power_17 : decode cX6_power 17 = .ok (.iload_n 1, 1) := by decide +kernel
theorem dX6_power_18 : decode cX6_power 18 = .ok (.invokevirtual 85, 3) := by decide +kernel
theorem dX6_power_21 : decode cX6_power 21 = .ok (.iconst 1, 1) := by decide +kernel
theorem dX6_power_22 : decode cX6_power 22 = .ok (.ireturn, 1) := by decide +kernel
set_option maxRecDepth 20000 in
theorem ggX6_restart_X0_switchOn : GoodIn wsX6_restart wsX0_switchOn := goodIn_r _ [9, 10, 11, 108, 109, 110] (by decide +kernel) (by decide +kernel)
set_option maxRecDepth 20000 in
theorem gX6_restart_X0_switchOn : GoodIn wsX6_restart (wsV RX6 89 RX0 yX0_switchOn wsX0_switchOn) := goodIn_app (goodIn_of _ (by decide +kernel)) ggX6_restart_X0_switchOn
set_option maxRecDepth 20000 in
theorem ggX6_restart_X5_loadNewest : GoodIn wsX6_restart wsX5_loadNewest := goodIn_r _ [15, 16, 17, 14, 18, 19, 20, 21, 22, 23, 24, 25, 26, 27, 28, 8, 29, 30, 31, 32, 33, 34, 35, 36, 37, 38, 39, 40, 41, 42, 43, 44, 45, 46, 47, 48, 49, 50, 51, 52, 53, 54, 55, 56, 57, 58, 59, 60, 61, 62, 63, 64, 65, 108, 109, 110, 111, 112] (by decide +kernel) (by decide +kernel)
set_option maxRecDepth 20000 in
theorem gX6_restart_X5_loadNewest : GoodIn wsX6_restart (va_wsS RX6 92 yX5_loadNewest wsX5_loadNewest) := goodIn_app (goodIn_of _ (by decide +kernel)) ggX6_restart_X5_loadNewest
set_option maxRecDepth 20000 in
theorem ggX6_restart_X4_holds : GoodIn wsX6_restart wsX4_holds := goodIn_r _ [69, 70, 71, 68, 72, 73, 74, 75, 76, 77, 27, 28, 8, 29, 30, 31, 32, 33, 34, 78, 36, 37, 38, 39, 40, 41, 42, 43, 44, 45, 46, 47, 79, 80, 81, 82, 83, 84, 85, 86, 87, 88, 89, 90, 91, 92, 93, 94, 95, 108, 109, 110] (by decide +kernel) (by decide +kernel)
set_option maxRecDepth 20000 in
theorem gX6_restart_X4_holds : GoodIn wsX6_restart (va_wsS RX6 96 yX4_holds wsX4_holds) := goodIn_app (goodIn_of _ (by decide +kernel)) ggX6_restart_X4_holds
set_option maxRecDepth 20000 in
theorem ggX6_restart_X4_repeat : GoodIn wsX6_restart wsX4_repeat := goodIn_r _ [98, 70, 71, 68, 72, 73, 74, 75, 76, 77, 27, 28, 8, 29, 30, 31, 32, 33, 34, 82, 83, 84, 88, 89, 90, 93, 94, 95, 99, 54, 55, 51, 56, 57, 58, 108, 109, 110, 111, 112] (by decide +kernel) (by decide +kernel)
set_option maxRecDepth 20000 in
theorem gX6_restart_X4_repeat : GoodIn wsX6_restart (va_wsS RX6 100 yX4_repeat wsX4_repeat) := goodIn_app (goodIn_of _ (by decide +kernel)) ggX6_restart_X4_repeat
theorem dX6_restart_0 : decode cX6_restart 0 = .ok (.aload_n 0, 1) := by decide +kernel
theorem dX6_restart_1 : decode cX6_restart 1 = .ok (.getfield 10, 3) := by decide +kernel
theorem dX6_restart_4 : decode cX6_restart 4 = .ok (.invokevirtual 89, 3) := by decide +kernel
theorem dX6_restart_7 : decode cX6_restart 7 = .ok (.aload_n 0, 1) := by decide +kernel
theorem dX6_restart_8 : decode cX6_restart 8 = .ok (.aload_n 0, 1) := by decide +kernel
theorem dX6_restart_9 : decode cX6_restart 9 = .ok (.getfield 10, 3) := by decide +kernel
theorem dX6_restart_12 : decode cX6_restart 12 = .ok (.aload_n 0, 1) := by decide +kernel
theorem dX6_restart_13 : decode cX6_restart 13 = .ok (.getfield 33, 3) := by decide +kernel
theorem dX6_restart_16 : decode cX6_restart 16 = .ok (.invokestatic 92, 3) := by decide +kernel
theorem dX6_restart_19 : decode cX6_restart 19 = .ok (.putfield 55, 3) := by decide +kernel
theorem dX6_restart_22 : decode cX6_restart 22 = .ok (.aload_n 0, 1) := by decide +kernel
theorem dX6_restart_23 : decode cX6_restart 23 = .ok (.aload_n 0, 1) := by decide +kernel
theorem dX6_restart_24 : decode cX6_restart 24 = .ok (.getfield 55, 3) := by decide +kernel
theorem dX6_restart_27 : decode cX6_restart 27 = .ok (.putfield 51, 3) := by decide +kernel
theorem dX6_restart_30 : decode cX6_restart 30 = .ok (.iconst 0, 1) := by decide +kernel
theorem dX6_restart_31 : decode cX6_restart 31 = .ok (.istore_n 1, 1) := by decide +kernel
theorem dX6_restart_32 : decode cX6_restart 32 = .ok (.iload_n 1, 1) := by decide +kernel
theorem dX6_restart_33 : decode cX6_restart 33 = .ok (.bipush 40, 2) := by decide +kernel
theorem dX6_restart_35 : decode cX6_restart 35 = .ok (.if_icmp .ge 50, 3) := by decide +kernel
theorem dX6_restart_38 : decode cX6_restart 38 = .ok (.aload_n 0, 1) := by decide +kernel
theorem dX6_restart_39 : decode cX6_restart 39 = .ok (.getfield 10, 3) := by decide +kernel
theorem dX6_restart_42 : decode cX6_restart 42 = .ok (.aload_n 0, 1) := by decide +kernel
theorem dX6_restart_43 : decode cX6_restart 43 = .ok (.getfield 51, 3) := by decide +kernel
theorem dX6_restart_46 : decode cX6_restart 46 = .ok (.iconst 1, 1) := by decide +kernel
theorem dX6_restart_47 : decode cX6_restart 47 = .ok (.iadd, 1) := by decide +kernel
theorem dX6_restart_48 : decode cX6_restart 48 = .ok (.invokestatic 96, 3) := by decide +kernel
theorem dX6_restart_51 : decode cX6_restart 51 = .ok (.ifCond .eq 34, 3) := by decide +kernel
theorem dX6_restart_54 : decode cX6_restart 54 = .ok (.aload_n 0, 1) := by decide +kernel
theorem dX6_restart_55 : decode cX6_restart 55 = .ok (.dup, 1) := by decide +kernel
theorem dX6_restart_56 : decode cX6_restart 56 = .ok (.getfield 51, 3) := by decide +kernel
theorem dX6_restart_59 : decode cX6_restart 59 = .ok (.iconst 1, 1) := by decide +kernel
theorem dX6_restart_60 : decode cX6_restart 60 = .ok (.iadd, 1) := by decide +kernel
theorem dX6_restart_61 : decode cX6_restart 61 = .ok (.putfield 51, 3) := by decide +kernel
theorem dX6_restart_64 : decode cX6_restart 64 = .ok (.aload_n 0, 1) := by decide +kernel
theorem dX6_restart_65 : decode cX6_restart 65 = .ok (.getfield 10, 3) := by decide +kernel
theorem dX6_restart_68 : decode cX6_restart 68 = .ok (.aload_n 0, 1) := by decide +kernel
theorem dX6_restart_69 : decode cX6_restart 69 = .ok (.getfield 51, 3) := by decide +kernel
theorem dX6_restart_72 : decode cX6_restart 72 = .ok (.aload_n 0, 1) := by decide +kernel
theorem dX6_restart_73 : decode cX6_restart 73 = .ok (.getfield 33, 3) := by decide +kernel
theorem dX6_restart_76 : decode cX6_restart 76 = .ok (.invokestatic 100, 3) := by decide +kernel
theorem dX6_restart_79 : decode cX6_restart 79 = .ok (.iinc 1 1, 3) := by decide +kernel
theorem dX6_restart_82 : decode cX6_restart 82 = .ok (.goto (-50), 3) := by decide +kernel
theorem dX6_restart_85 : decode cX6_restart 85 = .ok (.iload_n 1, 1) := by decide +kernel
theorem dX6_restart_86 : decode cX6_restart 86 = .ok (.ireturn, 1) := by decide +kernel
set_option maxRecDepth 20000 in
theorem ggX6_isOn_X0_isPowered : GoodIn wsX6_isOn wsX0_isPowered := goodIn_r _ [6, 7, 16, 17, 18] (by decide +kernel) (by decide +kernel)
set_option maxRecDepth 20000 in
theorem gX6_isOn_X0_isPowered : GoodIn wsX6_isOn (wsV RX6 58 RX0 yX0_isPowered wsX0_isPowered) := goodIn_app (goodIn_of _ (by decide +kernel)) ggX6_isOn_X0_isPowered
theorem dX6_isOn_0 : decode cX6_isOn 0 = .ok (.aload_n 0, 1) := by decide +kernel
theorem dX6_isOn_1 : decode cX6_isOn 1 = .ok (.getfield 10, 3) := by decide +kernel
theorem dX6_isOn_4 : decode cX6_isOn 4 = .ok (.invokevirtual 58, 3) := by decide +kernel
theorem dX6_isOn_7 : decode cX6_isOn 7 = .ok (.ireturn, 1) := by decide +kernel
set_option maxRecDepth 20000 in
theorem ggX6_word_X0_at : GoodIn wsX6_word wsX0_at := goodIn_r _ [6, 7, 8, 9, 10, 5, 11, 20, 21, 22] (by decide +kernel) (by decide +kernel)
set_option maxRecDepth 20000 in
theorem gX6_word_X0_at : GoodIn wsX6_word (wsV RX6 104 RX0 yX0_at wsX0_at) := goodIn_app (goodIn_of _ (by decide +kernel)) ggX6_word_X0_at
theorem dX6_word_0 : decode cX6_word 0 = .ok (.aload_n 0, 1) := by decide +kernel
theorem dX6_word_1 : decode cX6_word 1 = .ok (.getfield 10, 3) := by decide +kernel
theorem dX6_word_4 : decode cX6_word 4 = .ok (.iload_n 1, 1) := by decide +kernel
theorem dX6_word_5 : decode cX6_word 5 = .ok (.invokevirtual 104, 3) := by decide +kernel
theorem dX6_word_8 : decode cX6_word 8 = .ok (.ireturn, 1) := by decide +kernel
set_option maxRecDepth 20000 in
theorem ggX6_spoil_X0_put : GoodIn wsX6_spoil wsX0_put := goodIn_r _ [6, 7, 8, 9, 10, 5, 11, 20, 21, 22] (by decide +kernel) (by decide +kernel)
set_option maxRecDepth 20000 in
theorem gX6_spoil_X0_put : GoodIn wsX6_spoil (wsV RX6 107 RX0 yX0_put wsX0_put) := goodIn_app (goodIn_of _ (by decide +kernel)) ggX6_spoil_X0_put
theorem dX6_spoil_0 : decode cX6_spoil 0 = .ok (.aload_n 0, 1) := by decide +kernel
theorem dX6_spoil_1 : decode cX6_spoil 1 = .ok (.getfield 10, 3) := by decide +kernel
theorem dX6_spoil_4 : decode cX6_spoil 4 = .ok (.iload_n 1, 1) := by decide +kernel
theorem dX6_spoil_5 : decode cX6_spoil 5 = .ok (.iload_n 2, 1) := by decide +kernel
theorem dX6_spoil_6 : decode cX6_spoil 6 = .ok (.invokevirtual 107, 3) := by decide +kernel
theorem dX6_spoil_9 : decode cX6_spoil 9 = .ok (.ireturn, 1) := by decide +kernel
set_option maxRecDepth 20000 in
theorem ggX6_rating_X0_isPowered : GoodIn wsX6_rating wsX0_isPowered := goodIn_r _ [7, 8, 30, 31, 32] (by decide +kernel) (by decide +kernel)
set_option maxRecDepth 20000 in
theorem gX6_rating_X0_isPowered : GoodIn wsX6_rating (wsV RX6 58 RX0 yX0_isPowered wsX0_isPowered) := goodIn_app (goodIn_of _ (by decide +kernel)) ggX6_rating_X0_isPowered
set_option maxRecDepth 20000 in
theorem ggX6_rating_X6_isUser : GoodIn wsX6_rating wsX6_isUser := goodIn_r _ [12] (by decide +kernel) (by decide +kernel)
set_option maxRecDepth 20000 in
theorem gX6_rating_X6_isUser : GoodIn wsX6_rating (va_wsS RX6 62 yX6_isUser wsX6_isUser) := goodIn_app (goodIn_of _ (by decide +kernel)) ggX6_rating_X6_isUser
set_option maxRecDepth 20000 in
theorem ggX6_rating_X6_isItem : GoodIn wsX6_rating wsX6_isItem := goodIn_r _ [15] (by decide +kernel) (by decide +kernel)
set_option maxRecDepth 20000 in
theorem gX6_rating_X6_isItem : GoodIn wsX6_rating (va_wsS RX6 66 yX6_isItem wsX6_isItem) := goodIn_app (goodIn_of _ (by decide +kernel)) ggX6_rating_X6_isItem
set_option maxRecDepth 20000 in
theorem ggX6_rating_X2_at : GoodIn wsX6_rating wsX2_at := goodIn_r _ [20, 21, 33, 34] (by decide +kernel) (by decide +kernel)
set_option maxRecDepth 20000 in
theorem gX6_rating_X2_at : GoodIn wsX6_rating (wsV RX6 73 RX2 yX2_at wsX2_at) := goodIn_app (goodIn_of _ (by decide +kernel)) ggX6_rating_X2_at
theorem dX6_rating_0 : decode cX6_rating 0 = .ok (.aload_n 0, 1) := by decide +kernel
theorem dX6_rating_1 : decode cX6_rating 1 = .ok (.getfield 10, 3) := by decide +kernel
theorem dX6_rating_4 : decode cX6_rating 4 = .ok (.invokevirtual 58, 3) := by decide +kernel
theorem dX6_rating_7 : decode cX6_rating 7 = .ok (.ifCond .ne 6, 3) := by decide +kernel
theorem dX6_rating_10 : decode cX6_rating 10 = .ok (.bipush (-3), 2) := by decide +kernel
theorem dX6_rating_12 : decode cX6_rating 12 = .ok (.ireturn, 1) := by decide +kernel
theorem dX6_rating_13 : decode cX6_rating 13 = .ok (.iload_n 1, 1) := by decide +kernel
theorem dX6_rating_14 : decode cX6_rating 14 = .ok (.invokestatic 62, 3) := by decide +kernel
theorem dX6_rating_17 : decode cX6_rating 17 = .ok (.ifCond .eq 10, 3) := by decide +kernel
theorem dX6_rating_20 : decode cX6_rating 20 = .ok (.iload_n 2, 1) := by decide +kernel
theorem dX6_rating_21 : decode cX6_rating 21 = .ok (.invokestatic 66, 3) := by decide +kernel
theorem dX6_rating_24 : decode cX6_rating 24 = .ok (.ifCond .ne 6, 3) := by decide +kernel
theorem dX6_rating_27 : decode cX6_rating 27 = .ok (.bipush (-2), 2) := by decide +kernel
theorem dX6_rating_29 : decode cX6_rating 29 = .ok (.ireturn, 1) := by decide +kernel
theorem dX6_rating_30 : decode cX6_rating 30 = .ok (.aload_n 0, 1) := by decide +kernel
theorem dX6_rating_31 : decode cX6_rating 31 = .ok (.getfield 33, 3) := by decide +kernel
theorem dX6_rating_34 : decode cX6_rating 34 = .ok (.iload_n 1, 1) := by decide +kernel
theorem dX6_rating_35 : decode cX6_rating 35 = .ok (.iload_n 2, 1) := by decide +kernel
theorem dX6_rating_36 : decode cX6_rating 36 = .ok (.invokevirtual 73, 3) := by decide +kernel
theorem dX6_rating_39 : decode cX6_rating 39 = .ok (.ireturn, 1) := by decide +kernel
set_option maxRecDepth 20000 in
theorem ggX6_weight_X0_isPowered : GoodIn wsX6_weight wsX0_isPowered := goodIn_r _ [7, 8, 28, 29, 30] (by decide +kernel) (by decide +kernel)
set_option maxRecDepth 20000 in
theorem gX6_weight_X0_isPowered : GoodIn wsX6_weight (wsV RX6 58 RX0 yX0_isPowered wsX0_isPowered) := goodIn_app (goodIn_of _ (by decide +kernel)) ggX6_weight_X0_isPowered
set_option maxRecDepth 20000 in
theorem ggX6_weight_X6_isItem : GoodIn wsX6_weight wsX6_isItem := goodIn_r _ [12] (by decide +kernel) (by decide +kernel)
set_option maxRecDepth 20000 in
theorem gX6_weight_X6_isItem : GoodIn wsX6_weight (va_wsS RX6 66 yX6_isItem wsX6_isItem) := goodIn_app (goodIn_of _ (by decide +kernel)) ggX6_weight_X6_isItem
set_option maxRecDepth 20000 in
theorem ggX6_weight_X2_weightOf : GoodIn wsX6_weight wsX2_weightOf := goodIn_r _ [17, 18, 19, 31, 32] (by decide +kernel) (by decide +kernel)
set_option maxRecDepth 20000 in
theorem gX6_weight_X2_weightOf : GoodIn wsX6_weight (wsV RX6 111 RX2 yX2_weightOf wsX2_weightOf) := goodIn_app (goodIn_of _ (by decide +kernel)) ggX6_weight_X2_weightOf
theorem dX6_weight_0 : decode cX6_weight 0 = .ok (.aload_n 0, 1) := by decide +kernel
theorem dX6_weight_1 : decode cX6_weight 1 = .ok (.getfield 10, 3) := by decide +kernel
theorem dX6_weight_4 : decode cX6_weight 4 = .ok (.invokevirtual 58, 3) := by decide +kernel
theorem dX6_weight_7 : decode cX6_weight 7 = .ok (.ifCond .ne 6, 3) := by decide +kernel
theorem dX6_weight_10 : decode cX6_weight 10 = .ok (.bipush (-3), 2) := by decide +kernel
theorem dX6_weight_12 : decode cX6_weight 12 = .ok (.ireturn, 1) := by decide +kernel
theorem dX6_weight_13 : decode cX6_weight 13 = .ok (.iload_n 1, 1) := by decide +kernel
theorem dX6_weight_14 : decode cX6_weight 14 = .ok (.invokestatic 66, 3) := by decide +kernel
theorem dX6_weight_17 : decode cX6_weight 17 = .ok (.ifCond .eq 10, 3) := by decide +kernel
theorem dX6_weight_20 : decode cX6_weight 20 = .ok (.iload_n 2, 1) := by decide +kernel
theorem dX6_weight_21 : decode cX6_weight 21 = .ok (.invokestatic 66, 3) := by decide +kernel
theorem dX6_weight_24 : decode cX6_weight 24 = .ok (.ifCond .ne 6, 3) := by decide +kernel
theorem dX6_weight_27 : decode cX6_weight 27 = .ok (.bipush (-2), 2) := by decide +kernel
theorem dX6_weight_29 : decode cX6_weight 29 = .ok (.ireturn, 1) := by decide +kernel
theorem dX6_weight_30 : decode cX6_weight 30 = .ok (.aload_n 0, 1) := by decide +kernel
theorem dX6_weight_31 : decode cX6_weight 31 = .ok (.getfield 33, 3) := by decide +kernel
theorem dX6_weight_34 : decode cX6_weight 34 = .ok (.iload_n 1, 1) := by decide +kernel
theorem dX6_weight_35 : decode cX6_weight 35 = .ok (.iload_n 2, 1) := by decide +kernel
theorem dX6_weight_36 : decode cX6_weight 36 = .ok (.invokevirtual 111, 3) := by decide +kernel
theorem dX6_weight_39 : decode cX6_weight 39 = .ok (.ireturn, 1) := by decide +kernel
set_option maxRecDepth 20000 in
theorem ggX6_neighbour_X0_isPowered : GoodIn wsX6_neighbour wsX0_isPowered := goodIn_r _ [8, 9, 53, 54, 55] (by decide +kernel) (by decide +kernel)
set_option maxRecDepth 20000 in
theorem gX6_neighbour_X0_isPowered : GoodIn wsX6_neighbour (wsV RX6 58 RX0 yX0_isPowered wsX0_isPowered) := goodIn_app (goodIn_of _ (by decide +kernel)) ggX6_neighbour_X0_isPowered
set_option maxRecDepth 20000 in
theorem ggX6_neighbour_X6_isItem : GoodIn wsX6_neighbour wsX6_isItem := goodIn_r _ [13] (by decide +kernel) (by decide +kernel)
set_option maxRecDepth 20000 in
theorem gX6_neighbour_X6_isItem : GoodIn wsX6_neighbour (va_wsS RX6 66 yX6_isItem wsX6_isItem) := goodIn_app (goodIn_of _ (by decide +kernel)) ggX6_neighbour_X6_isItem
set_option maxRecDepth 20000 in
theorem ggX6_neighbour_X1_rankNeighbours : GoodIn wsX6_neighbour wsX1_rankNeighbours := goodIn_r _ [18, 19, 20, 21, 17, 22, 23, 24, 25, 26, 27, 28, 29, 30, 31, 32, 33, 34, 35, 36, 56, 57, 58, 59, 60] (by decide +kernel) (by decide +kernel)
set_option maxRecDepth 20000 in
theorem gX6_neighbour_X1_rankNeighbours : GoodIn wsX6_neighbour (wsV RX6 114 RX1 yX1_rankNeighbours wsX1_rankNeighbours) := goodIn_app (goodIn_of _ (by decide +kernel)) ggX6_neighbour_X1_rankNeighbours
set_option maxRecDepth 20000 in
theorem ggX6_neighbour_X1_itemAt : GoodIn wsX6_neighbour wsX1_itemAt := goodIn_r _ [40, 36, 41, 42, 43, 17, 44, 23, 56, 57, 58] (by decide +kernel) (by decide +kernel)
set_option maxRecDepth 20000 in
theorem gX6_neighbour_X1_itemAt : GoodIn wsX6_neighbour (wsV RX6 118 RX1 yX1_itemAt wsX1_itemAt) := goodIn_app (goodIn_of _ (by decide +kernel)) ggX6_neighbour_X1_itemAt
theorem dX6_neighbour_0 : decode cX6_neighbour 0 = .ok (.aload_n 0, 1) := by decide +kernel
theorem dX6_neighbour_1 : decode cX6_neighbour 1 = .ok (.getfield 10, 3) := by decide +kernel
theorem dX6_neighbour_4 : decode cX6_neighbour 4 = .ok (.invokevirtual 58, 3) := by decide +kernel
theorem dX6_neighbour_7 : decode cX6_neighbour 7 = .ok (.ifCond .ne 6, 3) := by decide +kernel
theorem dX6_neighbour_10 : decode cX6_neighbour 10 = .ok (.bipush (-3), 2) := by decide +kernel
theorem dX6_neighbour_12 : decode cX6_neighbour 12 = .ok (.ireturn, 1) := by decide +kernel
theorem dX6_neighbour_13 : decode cX6_neighbour 13 = .ok (.iload_n 1, 1) := by decide +kernel
theorem dX6_neighbour_14 : decode cX6_neighbour 14 = .ok (.invokestatic 66, 3) := by decide +kernel
theorem dX6_neighbour_17 : decode cX6_neighbour 17 = .ok (.ifCond .ne 6, 3) := by decide +kernel
theorem dX6_neighbour_20 : decode cX6_neighbour 20 = .ok (.bipush (-2), 2) := by decide +kernel
theorem dX6_neighbour_22 : decode cX6_neighbour 22 = .ok (.ireturn, 1) := by decide +kernel
theorem dX6_neighbour_23 : decode cX6_neighbour 23 = .ok (.aload_n 0, 1) := by decide +kernel
theorem dX6_neighbour_24 : decode cX6_neighbour 24 = .ok (.getfield 40, 3) := by decide +kernel
theorem dX6_neighbour_27 : decode cX6_neighbour 27 = .ok (.aload_n 0, 1) := by decide +kernel
theorem dX6_neighbour_28 : decode cX6_neighbour 28 = .ok (.getfield 33, 3) := by decide +kernel
theorem dX6_neighbour_31 : decode cX6_neighbour 31 = .ok (.iload_n 1, 1) := by decide +kernel
theorem dX6_neighbour_32 : decode cX6_neighbour 32 = .ok (.invokevirtual 114, 3) := by decide +kernel
theorem dX6_neighbour_35 : decode cX6_neighbour 35 = .ok (.aload_n 0, 1) := by decide +kernel
theorem dX6_neighbour_36 : decode cX6_neighbour 36 = .ok (.getfield 40, 3) := by decide +kernel
theorem dX6_neighbour_39 : decode cX6_neighbour 39 = .ok (.iload_n 2, 1) := by decide +kernel
theorem dX6_neighbour_40 : decode cX6_neighbour 40 = .ok (.invokevirtual 118, 3) := by decide +kernel
theorem dX6_neighbour_43 : decode cX6_neighbour 43 = .ok (.ireturn, 1) := by decide +kernel
set_option maxRecDepth 20000 in
theorem ggX6_score_X0_isPowered : GoodIn wsX6_score wsX0_isPowered := goodIn_r _ [9, 10, 42, 43, 44] (by decide +kernel) (by decide +kernel)
set_option maxRecDepth 20000 in
theorem gX6_score_X0_isPowered : GoodIn wsX6_score (wsV RX6 58 RX0 yX0_isPowered wsX0_isPowered) := goodIn_app (goodIn_of _ (by decide +kernel)) ggX6_score_X0_isPowered
set_option maxRecDepth 20000 in
theorem ggX6_score_X6_isUser : GoodIn wsX6_score wsX6_isUser := goodIn_r _ [14] (by decide +kernel) (by decide +kernel)
set_option maxRecDepth 20000 in
theorem gX6_score_X6_isUser : GoodIn wsX6_score (va_wsS RX6 62 yX6_isUser wsX6_isUser) := goodIn_app (goodIn_of _ (by decide +kernel)) ggX6_score_X6_isUser
set_option maxRecDepth 20000 in
theorem ggX6_score_X6_isItem : GoodIn wsX6_score wsX6_isItem := goodIn_r _ [17] (by decide +kernel) (by decide +kernel)
set_option maxRecDepth 20000 in
theorem gX6_score_X6_isItem : GoodIn wsX6_score (va_wsS RX6 66 yX6_isItem wsX6_isItem) := goodIn_app (goodIn_of _ (by decide +kernel)) ggX6_score_X6_isItem
set_option maxRecDepth 20000 in
theorem ggX6_score_X2_scoreOf : GoodIn wsX6_score wsX2_scoreOf := goodIn_r _ [22, 23, 24, 25, 21, 26, 27, 28, 29, 30, 31, 32, 33, 45, 46] (by decide +kernel) (by decide +kernel)
set_option maxRecDepth 20000 in
theorem gX6_score_X2_scoreOf : GoodIn wsX6_score (wsV RX6 125 RX2 yX2_scoreOf wsX2_scoreOf) := goodIn_app (goodIn_of _ (by decide +kernel)) ggX6_score_X2_scoreOf
theorem dX6_score_0 : decode cX6_score 0 = .ok (.aload_n 0, 1) := by decide +kernel
theorem dX6_score_1 : decode cX6_score 1 = .ok (.getfield 10, 3) := by decide +kernel
theorem dX6_score_4 : decode cX6_score 4 = .ok (.invokevirtual 58, 3) := by decide +kernel
theorem dX6_score_7 : decode cX6_score 7 = .ok (.ifCond .ne 7, 3) := by decide +kernel
theorem dX6_score_10 : decode cX6_score 10 = .ok (.ldc2_w 121, 3) := by decide +kernel
theorem dX6_score_13 : decode cX6_score 13 = .ok (.lreturn, 1) := by decide +kernel
theorem dX6_score_14 : decode cX6_score 14 = .ok (.iload_n 1, 1) := by decide +kernel
theorem dX6_score_15 : decode cX6_score 15 = .ok (.invokestatic 62, 3) := by decide +kernel
theorem dX6_score_18 : decode cX6_score 18 = .ok (.ifCond .eq 10, 3) := by decide +kernel
theorem dX6_score_21 : decode cX6_score 21 = .ok (.iload_n 2, 1) := by decide +kernel
theorem dX6_score_22 : decode cX6_score 22 = .ok (.invokestatic 66, 3) := by decide +kernel
theorem dX6_score_25 : decode cX6_score 25 = .ok (.ifCond .ne 7, 3) := by decide +kernel
theorem dX6_score_28 : decode cX6_score 28 = .ok (.ldc2_w 123, 3) := by decide +kernel
theorem dX6_score_31 : decode cX6_score 31 = .ok (.lreturn, 1) := by decide +kernel
theorem dX6_score_32 : decode cX6_score 32 = .ok (.aload_n 0, 1) := by decide +kernel
theorem dX6_score_33 : decode cX6_score 33 = .ok (.getfield 33, 3) := by decide +kernel
theorem dX6_score_36 : decode cX6_score 36 = .ok (.iload_n 1, 1) := by decide +kernel
theorem dX6_score_37 : decode cX6_score 37 = .ok (.iload_n 2, 1) := by decide +kernel
theorem dX6_score_38 : decode cX6_score 38 = .ok (.invokevirtual 125, 3) := by decide +kernel
theorem dX6_score_41 : decode cX6_score 41 = .ok (.lreturn, 1) := by decide +kernel
set_option maxRecDepth 20000 in
theorem ggX6_best_X0_isPowered : GoodIn wsX6_best wsX0_isPowered := goodIn_r _ [8, 9, 66, 67, 68] (by decide +kernel) (by decide +kernel)
set_option maxRecDepth 20000 in
theorem gX6_best_X0_isPowered : GoodIn wsX6_best (wsV RX6 58 RX0 yX0_isPowered wsX0_isPowered) := goodIn_app (goodIn_of _ (by decide +kernel)) ggX6_best_X0_isPowered
set_option maxRecDepth 20000 in
theorem ggX6_best_X6_isUser : GoodIn wsX6_best wsX6_isUser := goodIn_r _ [13] (by decide +kernel) (by decide +kernel)
set_option maxRecDepth 20000 in
theorem gX6_best_X6_isUser : GoodIn wsX6_best (va_wsS RX6 62 yX6_isUser wsX6_isUser) := goodIn_app (goodIn_of _ (by decide +kernel)) ggX6_best_X6_isUser
set_option maxRecDepth 20000 in
theorem ggX6_best_X1_rankBest : GoodIn wsX6_best wsX1_rankBest := goodIn_r _ [18, 19, 20, 21, 17, 22, 23, 24, 25, 26, 27, 28, 29, 30, 31, 32, 33, 34, 35, 36, 37, 38, 39, 40, 41, 42, 43, 44, 45, 46, 47, 48, 49, 69, 70, 71, 72, 73] (by decide +kernel) (by decide +kernel)
set_option maxRecDepth 20000 in
theorem gX6_best_X1_rankBest : GoodIn wsX6_best (wsV RX6 129 RX1 yX1_rankBest wsX1_rankBest) := goodIn_app (goodIn_of _ (by decide +kernel)) ggX6_best_X1_rankBest
set_option maxRecDepth 20000 in
theorem ggX6_best_X1_itemAt : GoodIn wsX6_best wsX1_itemAt := goodIn_r _ [53, 49, 54, 55, 56, 17, 57, 23, 69, 70, 71] (by decide +kernel) (by decide +kernel)
set_option maxRecDepth 20000 in
theorem gX6_best_X1_itemAt : GoodIn wsX6_best (wsV RX6 118 RX1 yX1_itemAt wsX1_itemAt) := goodIn_app (goodIn_of _ (by decide +kernel)) ggX6_best_X1_itemAt
theorem dX6_best_0 : decode cX6_best 0 = .ok (.aload_n 0, 1) := by decide +kernel
theorem dX6_best_1 : decode cX6_best 1 = .ok (.getfield 10, 3) := by decide +kernel
theorem dX6_best_4 : decode cX6_best 4 = .ok (.invokevirtual 58, 3) := by decide +kernel
theorem dX6_best_7 : decode cX6_best 7 = .ok (.ifCond .ne 6, 3) := by decide +kernel
theorem dX6_best_10 : decode cX6_best 10 = .ok (.bipush (-3), 2) := by decide +kernel
theorem dX6_best_12 : decode cX6_best 12 = .ok (.ireturn, 1) := by decide +kernel
theorem dX6_best_13 : decode cX6_best 13 = .ok (.iload_n 1, 1) := by decide +kernel
theorem dX6_best_14 : decode cX6_best 14 = .ok (.invokestatic 62, 3) := by decide +kernel
theorem dX6_best_17 : decode cX6_best 17 = .ok (.ifCond .ne 6, 3) := by decide +kernel
theorem dX6_best_20 : decode cX6_best 20 = .ok (.bipush (-2), 2) := by decide +kernel
theorem dX6_best_22 : decode cX6_best 22 = .ok (.ireturn, 1) := by decide +kernel
theorem dX6_best_23 : decode cX6_best 23 = .ok (.aload_n 0, 1) := by decide +kernel
theorem dX6_best_24 : decode cX6_best 24 = .ok (.getfield 40, 3) := by decide +kernel
theorem dX6_best_27 : decode cX6_best 27 = .ok (.aload_n 0, 1) := by decide +kernel
theorem dX6_best_28 : decode cX6_best 28 = .ok (.getfield 33, 3) := by decide +kernel
theorem dX6_best_31 : decode cX6_best 31 = .ok (.iload_n 1, 1) := by decide +kernel
theorem dX6_best_32 : decode cX6_best 32 = .ok (.invokevirtual 129, 3) := by decide +kernel
theorem dX6_best_35 : decode cX6_best 35 = .ok (.aload_n 0, 1) := by decide +kernel
theorem dX6_best_36 : decode cX6_best 36 = .ok (.getfield 40, 3) := by decide +kernel
theorem dX6_best_39 : decode cX6_best 39 = .ok (.iload_n 2, 1) := by decide +kernel
theorem dX6_best_40 : decode cX6_best 40 = .ok (.invokevirtual 118, 3) := by decide +kernel
theorem dX6_best_43 : decode cX6_best 43 = .ok (.ireturn, 1) := by decide +kernel
set_option maxRecDepth 20000 in
theorem ggX6_reads_X0_isPowered : GoodIn wsX6_reads wsX0_isPowered := goodIn_r _ [8, 9, 101, 102, 103] (by decide +kernel) (by decide +kernel)
set_option maxRecDepth 20000 in
theorem gX6_reads_X0_isPowered : GoodIn wsX6_reads (wsV RX6 58 RX0 yX0_isPowered wsX0_isPowered) := goodIn_app (goodIn_of _ (by decide +kernel)) ggX6_reads_X0_isPowered
set_option maxRecDepth 20000 in
theorem ggX6_reads_X6_isUser : GoodIn wsX6_reads wsX6_isUser := goodIn_r _ [13] (by decide +kernel) (by decide +kernel)
set_option maxRecDepth 20000 in
theorem gX6_reads_X6_isUser : GoodIn wsX6_reads (va_wsS RX6 62 yX6_isUser wsX6_isUser) := goodIn_app (goodIn_of _ (by decide +kernel)) ggX6_reads_X6_isUser
set_option maxRecDepth 20000 in
theorem ggX6_reads_X3_countEntries : GoodIn wsX6_reads wsX3_countEntries := goodIn_r _ [18, 19, 20, 21, 22, 17, 23, 24, 25, 26, 27, 28, 29, 30, 31, 32, 33, 34, 35, 36, 37, 38, 39, 40, 41, 42, 43, 44, 45, 46, 47, 48, 49, 50, 51, 52, 53, 54, 55, 56, 57, 58, 59, 60, 61, 62, 63, 64, 65, 66, 67, 68, 69, 70, 71, 72, 73, 74, 75, 76, 77, 78, 79, 80, 81, 82, 83, 84, 85, 86, 87, 88, 89, 90, 91, 92, 104, 105, 106, 107, 108, 109, 110, 111] (by decide +kernel) (by decide +kernel)
set_option maxRecDepth 20000 in
theorem gX6_reads_X3_countEntries : GoodIn wsX6_reads (wsV RX6 132 RX3 yX3_countEntries wsX3_countEntries) := goodIn_app (goodIn_of _ (by decide +kernel)) ggX6_reads_X3_countEntries
theorem dX6_reads_0 : decode cX6_reads 0 = .ok (.aload_n 0, 1) := by decide +kernel
theorem dX6_reads_1 : decode cX6_reads 1 = .ok (.getfield 10, 3) := by decide +kernel
theorem dX6_reads_4 : decode cX6_reads 4 = .ok (.invokevirtual 58, 3) := by decide +kernel
theorem dX6_reads_7 : decode cX6_reads 7 = .ok (.ifCond .ne 6, 3) := by decide +kernel
theorem dX6_reads_10 : decode cX6_reads 10 = .ok (.bipush (-3), 2) := by decide +kernel
theorem dX6_reads_12 : decode cX6_reads 12 = .ok (.ireturn, 1) := by decide +kernel
theorem dX6_reads_13 : decode cX6_reads 13 = .ok (.iload_n 1, 1) := by decide +kernel
theorem dX6_reads_14 : decode cX6_reads 14 = .ok (.invokestatic 62, 3) := by decide +kernel
theorem dX6_reads_17 : decode cX6_reads 17 = .ok (.ifCond .eq 14, 3) := by decide +kernel
theorem dX6_reads_20 : decode cX6_reads 20 = .ok (.iload_n 2, 1) := by decide +kernel
theorem dX6_reads_21 : decode cX6_reads 21 = .ok (.iconst 1, 1) := by decide +kernel
theorem dX6_reads_22 : decode cX6_reads 22 = .ok (.if_icmp .lt 9, 3) := by decide +kernel
theorem dX6_reads_25 : decode cX6_reads 25 = .ok (.iload_n 2, 1) := by decide +kernel
theorem dX6_reads_26 : decode cX6_reads 26 = .ok (.bipush 16, 2) := by decide +kernel
theorem dX6_reads_28 : decode cX6_reads 28 = .ok (.if_icmp .le 6, 3) := by decide +kernel
theorem dX6_reads_31 : decode cX6_reads 31 = .ok (.bipush (-2), 2) := by decide +kernel
theorem dX6_reads_33 : decode cX6_reads 33 = .ok (.ireturn, 1) := by decide +kernel
theorem dX6_reads_34 : decode cX6_reads 34 = .ok (.aload_n 0, 1) := by decide +kernel
theorem dX6_reads_35 : decode cX6_reads 35 = .ok (.getfield 47, 3) := by decide +kernel
theorem dX6_reads_38 : decode cX6_reads 38 = .ok (.aload_n 0, 1) := by decide +kernel
theorem dX6_reads_39 : decode cX6_reads 39 = .ok (.getfield 33, 3) := by decide +kernel
theorem dX6_reads_42 : decode cX6_reads 42 = .ok (.iload_n 1, 1) := by decide +kernel
theorem dX6_reads_43 : decode cX6_reads 43 = .ok (.iload_n 2, 1) := by decide +kernel
theorem dX6_reads_44 : decode cX6_reads 44 = .ok (.invokevirtual 132, 3) := by decide +kernel
theorem dX6_reads_47 : decode cX6_reads 47 = .ok (.ireturn, 1) := by decide +kernel
set_option maxRecDepth 20000 in
theorem ggX6_share_X0_isPowered : GoodIn wsX6_share wsX0_isPowered := goodIn_r _ [9, 10, 38, 39, 40] (by decide +kernel) (by decide +kernel)
set_option maxRecDepth 20000 in
theorem gX6_share_X0_isPowered : GoodIn wsX6_share (wsV RX6 58 RX0 yX0_isPowered wsX0_isPowered) := goodIn_app (goodIn_of _ (by decide +kernel)) ggX6_share_X0_isPowered
set_option maxRecDepth 20000 in
theorem ggX6_share_X6_isUser : GoodIn wsX6_share wsX6_isUser := goodIn_r _ [14] (by decide +kernel) (by decide +kernel)
set_option maxRecDepth 20000 in
theorem gX6_share_X6_isUser : GoodIn wsX6_share (va_wsS RX6 62 yX6_isUser wsX6_isUser) := goodIn_app (goodIn_of _ (by decide +kernel)) ggX6_share_X6_isUser
set_option maxRecDepth 20000 in
theorem ggX6_share_X6_isItem : GoodIn wsX6_share wsX6_isItem := goodIn_r _ [17] (by decide +kernel) (by decide +kernel)
set_option maxRecDepth 20000 in
theorem gX6_share_X6_isItem : GoodIn wsX6_share (va_wsS RX6 66 yX6_isItem wsX6_isItem) := goodIn_app (goodIn_of _ (by decide +kernel)) ggX6_share_X6_isItem
set_option maxRecDepth 20000 in
theorem ggX6_share_X2_shareOf : GoodIn wsX6_share wsX2_shareOf := goodIn_r _ [22, 23, 24, 25, 26, 21, 27, 28, 29, 41, 42] (by decide +kernel) (by decide +kernel)
set_option maxRecDepth 20000 in
theorem gX6_share_X2_shareOf : GoodIn wsX6_share (wsV RX6 136 RX2 yX2_shareOf wsX2_shareOf) := goodIn_app (goodIn_of _ (by decide +kernel)) ggX6_share_X2_shareOf
theorem dX6_share_0 : decode cX6_share 0 = .ok (.aload_n 0, 1) := by decide +kernel
theorem dX6_share_1 : decode cX6_share 1 = .ok (.getfield 10, 3) := by decide +kernel
theorem dX6_share_4 : decode cX6_share 4 = .ok (.invokevirtual 58, 3) := by decide +kernel
theorem dX6_share_7 : decode cX6_share 7 = .ok (.ifCond .ne 7, 3) := by decide +kernel
theorem dX6_share_10 : decode cX6_share 10 = .ok (.ldc2_w 121, 3) := by decide +kernel
theorem dX6_share_13 : decode cX6_share 13 = .ok (.lreturn, 1) := by decide +kernel
theorem dX6_share_14 : decode cX6_share 14 = .ok (.iload_n 1, 1) := by decide +kernel
theorem dX6_share_15 : decode cX6_share 15 = .ok (.invokestatic 62, 3) := by decide +kernel
theorem dX6_share_18 : decode cX6_share 18 = .ok (.ifCond .eq 17, 3) := by decide +kernel
theorem dX6_share_21 : decode cX6_share 21 = .ok (.iload_n 2, 1) := by decide +kernel
theorem dX6_share_22 : decode cX6_share 22 = .ok (.invokestatic 66, 3) := by decide +kernel
theorem dX6_share_25 : decode cX6_share 25 = .ok (.ifCond .eq 10, 3) := by decide +kernel
theorem dX6_share_28 : decode cX6_share 28 = .ok (.iload_n 3, 1) := by decide +kernel
theorem dX6_share_29 : decode cX6_share 29 = .ok (.invokestatic 66, 3) := by decide +kernel
theorem dX6_share_32 : decode cX6_share 32 = .ok (.ifCond .ne 7, 3) := by decide +kernel
theorem dX6_share_35 : decode cX6_share 35 = .ok (.ldc2_w 123, 3) := by decide +kernel
theorem dX6_share_38 : decode cX6_share 38 = .ok (.lreturn, 1) := by decide +kernel
theorem dX6_share_39 : decode cX6_share 39 = .ok (.aload_n 0, 1) := by decide +kernel
theorem dX6_share_40 : decode cX6_share 40 = .ok (.getfield 33, 3) := by decide +kernel
theorem dX6_share_43 : decode cX6_share 43 = .ok (.iload_n 1, 1) := by decide +kernel
theorem dX6_share_44 : decode cX6_share 44 = .ok (.iload_n 2, 1) := by decide +kernel
theorem dX6_share_45 : decode cX6_share 45 = .ok (.iload_n 3, 1) := by decide +kernel
theorem dX6_share_46 : decode cX6_share 46 = .ok (.invokevirtual 136, 3) := by decide +kernel
theorem dX6_share_49 : decode cX6_share 49 = .ok (.lreturn, 1) := by decide +kernel
set_option maxRecDepth 20000 in
theorem ggX6_number_X0_isPowered : GoodIn wsX6_number wsX0_isPowered := goodIn_r _ [9, 10, 25, 26, 27] (by decide +kernel) (by decide +kernel)
set_option maxRecDepth 20000 in
theorem gX6_number_X0_isPowered : GoodIn wsX6_number (wsV RX6 58 RX0 yX0_isPowered wsX0_isPowered) := goodIn_app (goodIn_of _ (by decide +kernel)) ggX6_number_X0_isPowered
set_option maxRecDepth 20000 in
theorem ggX6_number_X2_countRated : GoodIn wsX6_number wsX2_countRated := goodIn_r _ [15, 16, 28, 29] (by decide +kernel) (by decide +kernel)
set_option maxRecDepth 20000 in
theorem gX6_number_X2_countRated : GoodIn wsX6_number (wsV RX6 140 RX2 yX2_countRated wsX2_countRated) := goodIn_app (goodIn_of _ (by decide +kernel)) ggX6_number_X2_countRated
theorem dX6_number_0 : decode cX6_number 0 = .ok (.aload_n 0, 1) := by decide +kernel
theorem dX6_number_1 : decode cX6_number 1 = .ok (.getfield 10, 3) := by decide +kernel
theorem dX6_number_4 : decode cX6_number 4 = .ok (.invokevirtual 58, 3) := by decide +kernel
theorem dX6_number_7 : decode cX6_number 7 = .ok (.ifCond .ne 6, 3) := by decide +kernel
theorem dX6_number_10 : decode cX6_number 10 = .ok (.bipush (-3), 2) := by decide +kernel
theorem dX6_number_12 : decode cX6_number 12 = .ok (.ireturn, 1) := by decide +kernel
theorem dX6_number_13 : decode cX6_number 13 = .ok (.iload_n 1, 1) := by decide +kernel
theorem dX6_number_14 : decode cX6_number 14 = .ok (.tableswitch 44 0 2 #[26, 31, 36], 26) := by decide +kernel
theorem dX6_number_40 : decode cX6_number 40 = .ok (.aload_n 0, 1) := by decide +kernel
theorem dX6_number_41 : decode cX6_number 41 = .ok (.getfield 51, 3) := by decide +kernel
theorem dX6_number_44 : decode cX6_number 44 = .ok (.ireturn, 1) := by decide +kernel
theorem dX6_number_45 : decode cX6_number 45 = .ok (.aload_n 0, 1) := by decide +kernel
theorem dX6_number_46 : decode cX6_number 46 = .ok (.getfield 55, 3) := by decide +kernel
theorem dX6_number_49 : decode cX6_number 49 = .ok (.ireturn, 1) := by decide +kernel
theorem dX6_number_50 : decode cX6_number 50 = .ok (.aload_n 0, 1) := by decide +kernel
theorem dX6_number_51 : decode cX6_number 51 = .ok (.getfield 33, 3) := by decide +kernel
theorem dX6_number_54 : decode cX6_number 54 = .ok (.invokevirtual 140, 3) := by decide +kernel
theorem dX6_number_57 : decode cX6_number 57 = .ok (.ireturn, 1) := by decide +kernel
theorem dX6_number_58 : decode cX6_number 58 = .ok (.bipush (-2), 2) := by decide +kernel
theorem dX6_number_60 : decode cX6_number 60 = .ok (.ireturn, 1) := by decide +kernel
theorem dX6_isUser_0 : decode cX6_isUser 0 = .ok (.iload_n 0, 1) := by decide +kernel
theorem dX6_isUser_1 : decode cX6_isUser 1 = .ok (.ifCond .lt 13, 3) := by decide +kernel
theorem dX6_isUser_4 : decode cX6_isUser 4 = .ok (.iload_n 0, 1) := by decide +kernel
theorem dX6_isUser_5 : decode cX6_isUser 5 = .ok (.bipush 12, 2) := by decide +kernel
theorem dX6_isUser_7 : decode cX6_isUser 7 = .ok (.if_icmp .ge 7, 3) := by decide +kernel
theorem dX6_isUser_10 : decode cX6_isUser 10 = .ok (.iconst 1, 1) := by decide +kernel
theorem dX6_isUser_11 : decode cX6_isUser 11 = .ok (.goto 4, 3) := by decide +kernel
theorem dX6_isUser_14 : decode cX6_isUser 14 = .ok (.iconst 0, 1) := by decide +kernel
theorem dX6_isUser_15 : decode cX6_isUser 15 = .ok (.ireturn, 1) := by decide +kernel
theorem dX6_isItem_0 : decode cX6_isItem 0 = .ok (.iload_n 0, 1) := by decide +kernel
theorem dX6_isItem_1 : decode cX6_isItem 1 = .ok (.ifCond .lt 13, 3) := by decide +kernel
theorem dX6_isItem_4 : decode cX6_isItem 4 = .ok (.iload_n 0, 1) := by decide +kernel
theorem dX6_isItem_5 : decode cX6_isItem 5 = .ok (.bipush 16, 2) := by decide +kernel
theorem dX6_isItem_7 : decode cX6_isItem 7 = .ok (.if_icmp .ge 7, 3) := by decide +kernel
theorem dX6_isItem_10 : decode cX6_isItem 10 = .ok (.iconst 1, 1) := by decide +kernel
theorem dX6_isItem_11 : decode cX6_isItem 11 = .ok (.goto 4, 3) := by decide +kernel
theorem dX6_isItem_14 : decode cX6_isItem 14 = .ok (.iconst 0, 1) := by decide +kernel
theorem dX6_isItem_15 : decode cX6_isItem 15 = .ok (.ireturn, 1) := by decide +kernel
set_option maxRecDepth 20000 in
theorem ggX7_init_X7_checked : GoodIn wsX7_init wsX7_checked := goodIn_r _ [17, 6, 18, 19, 16, 20, 21, 22, 23, 24, 25, 26, 27, 28, 29, 30, 31] (by decide +kernel) (by decide +kernel)
set_option maxRecDepth 20000 in
theorem gX7_init_X7_checked : GoodIn wsX7_init (wsV RX7 31 RX7 yX7_checked wsX7_checked) := goodIn_app (goodIn_of _ (by decide +kernel)) ggX7_init_X7_checked
theorem dX7_init_0 : decode cX7_init 0 = .ok (.aload_n 0, 1) := by decide +kernel
theorem dX7_init_1 : decode cX7_init 1 = .ok (.invokespecial 1, 3) := by decide +kernel
theorem dX7_init_4 : decode cX7_init 4 = .ok (.aload_n 0, 1) := by decide +kernel
theorem dX7_init_5 : decode cX7_init 5 = .ok (.sipush 192, 3) := by decide +kernel
theorem dX7_init_8 : decode cX7_init 8 = .ok (.newarray .int, 2) := by decide +kernel
theorem dX7_init_10 : decode cX7_init 10 = .ok (.putfield 7, 3) := by decide +kernel
theorem dX7_init_13 : decode cX7_init 13 = .ok (.aload_n 0, 1) := by decide +kernel
theorem dX7_init_14 : decode cX7_init 14 = .ok (.sipush 172, 3) := by decide +kernel
theorem dX7_init_17 : decode cX7_init 17 = .ok (.newarray .int, 2) := by decide +kernel
theorem dX7_init_19 : decode cX7_init 19 = .ok (.putfield 13, 3) := by decide +kernel
theorem dX7_init_22 : decode cX7_init 22 = .ok (.aload_n 0, 1) := by decide +kernel
theorem dX7_init_23 : decode cX7_init 23 = .ok (.iconst (-1), 1) := by decide +kernel
theorem dX7_init_24 : decode cX7_init 24 = .ok (.putfield 16, 3) := by decide +kernel
theorem dX7_init_27 : decode cX7_init 27 = .ok (.aload_n 0, 1) := by decide +kernel
theorem dX7_init_28 : decode cX7_init 28 = .ok (.sipush 256, 3) := by decide +kernel
theorem dX7_init_31 : decode cX7_init 31 = .ok (.newarray .int, 2) := by decide +kernel
theorem dX7_init_33 : decode cX7_init 33 = .ok (.putfield 20, 3) := by decide +kernel
theorem dX7_init_36 : decode cX7_init 36 = .ok (.aload_n 0, 1) := by decide +kernel
theorem dX7_init_37 : decode cX7_init 37 = .ok (.bipush 16, 2) := by decide +kernel
theorem dX7_init_39 : decode cX7_init 39 = .ok (.newarray .long, 2) := by decide +kernel
theorem dX7_init_41 : decode cX7_init 41 = .ok (.putfield 23, 3) := by decide +kernel
theorem dX7_init_44 : decode cX7_init 44 = .ok (.aload_n 0, 1) := by decide +kernel
theorem dX7_init_45 : decode cX7_init 45 = .ok (.bipush 16, 2) := by decide +kernel
theorem dX7_init_47 : decode cX7_init 47 = .ok (.newarray .boolean, 2) := by decide +kernel
theorem dX7_init_49 : decode cX7_init 49 = .ok (.putfield 27, 3) := by decide +kernel
theorem dX7_init_52 : decode cX7_init 52 = .ok (.aload_n 0, 1) := by decide +kernel
theorem dX7_init_53 : decode cX7_init 53 = .ok (.getfield 13, 3) := by decide +kernel
theorem dX7_init_56 : decode cX7_init 56 = .ok (.bipush 25, 2) := by decide +kernel
theorem dX7_init_58 : decode cX7_init 58 = .ok (.aload_n 0, 1) := by decide +kernel
theorem dX7_init_59 : decode cX7_init 59 = .ok (.iconst 1, 1) := by decide +kernel
theorem dX7_init_60 : decode cX7_init 60 = .ok (.iconst 0, 1) := by decide +kernel
theorem dX7_init_61 : decode cX7_init 61 = .ok (.bipush 25, 2) := by decide +kernel
theorem dX7_init_63 : decode cX7_init 63 = .ok (.invokevirtual 31, 3) := by decide +kernel
theorem dX7_init_66 : decode cX7_init 66 = .ok (.iastore, 1) := by decide +kernel
theorem dX7_init_67 : decode cX7_init 67 = .ok (.return_, 1) := by decide +kernel
theorem dX7_mix_0 : decode cX7_mix 0 = .ok (.iload_n 0, 1) := by decide +kernel
theorem dX7_mix_1 : decode cX7_mix 1 = .ok (.iload_n 1, 1) := by decide +kernel
theorem dX7_mix_2 : decode cX7_mix 2 = .ok (.ixor, 1) := by decide +kernel
theorem dX7_mix_3 : decode cX7_mix 3 = .ok (.ldc 35, 2) := by decide +kernel
theorem dX7_mix_5 : decode cX7_mix 5 = .ok (.imul, 1) := by decide +kernel
theorem dX7_mix_6 : decode cX7_mix 6 = .ok (.ldc 36, 2) := by decide +kernel
theorem dX7_mix_8 : decode cX7_mix 8 = .ok (.iadd, 1) := by decide +kernel
theorem dX7_mix_9 : decode cX7_mix 9 = .ok (.istore_n 2, 1) := by decide +kernel
theorem dX7_mix_10 : decode cX7_mix 10 = .ok (.iload_n 2, 1) := by decide +kernel
theorem dX7_mix_11 : decode cX7_mix 11 = .ok (.iload_n 2, 1) := by decide +kernel
theorem dX7_mix_12 : decode cX7_mix 12 = .ok (.bipush 15, 2) := by decide +kernel
theorem dX7_mix_14 : decode cX7_mix 14 = .ok (.iushr, 1) := by decide +kernel
theorem dX7_mix_15 : decode cX7_mix 15 = .ok (.ixor, 1) := by decide +kernel
theorem dX7_mix_16 : decode cX7_mix 16 = .ok (.ireturn, 1) := by decide +kernel
set_option maxRecDepth 20000 in
theorem ggX7_checked_X7_mix : GoodIn wsX7_checked wsX7_mix := goodIn_r _ [5, 6, 7] (by decide +kernel) (by decide +kernel)
set_option maxRecDepth 20000 in
theorem gX7_checked_X7_mix : GoodIn wsX7_checked (va_wsS RX7 37 yX7_mix wsX7_mix) := goodIn_app (goodIn_of _ (by decide +kernel)) ggX7_checked_X7_mix
theorem dX7_checked_0 : decode cX7_checked 0 = .ok (.iload_n 1, 1) := by decide +kernel
theorem dX7_checked_1 : decode cX7_checked 1 = .ok (.istore 4, 2) := by decide +kernel
theorem dX7_checked_3 : decode cX7_checked 3 = .ok (.iconst 0, 1) := by decide +kernel
theorem dX7_checked_4 : decode cX7_checked 4 = .ok (.istore 5, 2) := by decide +kernel
theorem dX7_checked_6 : decode cX7_checked 6 = .ok (.iload 5, 2) := by decide +kernel
theorem dX7_checked_8 : decode cX7_checked 8 = .ok (.iload_n 3, 1) := by decide +kernel
theorem dX7_checked_9 : decode cX7_checked 9 = .ok (.if_icmp .ge 25, 3) := by decide +kernel
theorem dX7_checked_12 : decode cX7_checked 12 = .ok (.iload 4, 2) := by decide +kernel
theorem dX7_checked_14 : decode cX7_checked 14 = .ok (.aload_n 0, 1) := by decide +kernel
theorem dX7_checked_15 : decode cX7_checked 15 = .ok (.getfield 13, 3) := by decide +kernel
theorem dX7_checked_18 : decode cX7_checked 18 = .ok (.iload_n 2, 1) := by decide +kernel
theorem dX7_checked_19 : decode cX7_checked 19 = .ok (.iload 5, 2) := by decide +kernel
theorem dX7_checked_21 : decode cX7_checked 21 = .ok (.iadd, 1) := by decide +kernel
theorem dX7_checked_22 : decode cX7_checked 22 = .ok (.iaload, 1) := by decide +kernel
theorem dX7_checked_23 : decode cX7_checked 23 = .ok (.invokestatic 37, 3) := by decide +kernel
theorem dX7_checked_26 : decode cX7_checked 26 = .ok (.istore 4, 2) := by decide +kernel
theorem dX7_checked_28 : decode cX7_checked 28 = .ok (.iinc 5 1, 3) := by decide +kernel
theorem dX7_checked_31 : decode cX7_checked 31 = .ok (.goto (-25), 3) := by decide +kernel
theorem dX7_checked_34 : decode cX7_checked 34 = .ok (.iload 4, 2) := by decide +kernel
theorem dX7_checked_36 : decode cX7_checked 36 = .ok (.iconst 1, 1) := by decide +kernel
theorem dX7_checked_37 : decode cX7_checked 37 = .ok (.ior, 1) := by decide +kernel
theorem dX7_checked_38 : decode cX7_checked 38 = .ok (.ireturn, 1) := by decide +kernel
theorem dX7_noUser_0 : decode cX7_noUser 0 = .ok (.iload_n 0, 1) := by decide +kernel
theorem dX7_noUser_1 : decode cX7_noUser 1 = .ok (.ifCond .lt 9, 3) := by decide +kernel
theorem dX7_noUser_4 : decode cX7_noUser 4 = .ok (.iload_n 0, 1) := by decide +kernel
theorem dX7_noUser_5 : decode cX7_noUser 5 = .ok (.bipush 11, 2) := by decide +kernel
theorem dX7_noUser_7 : decode cX7_noUser 7 = .ok (.if_icmp .le 7, 3) := by decide +kernel
theorem dX7_noUser_10 : decode cX7_noUser 10 = .ok (.iconst 1, 1) := by decide +kernel
theorem dX7_noUser_11 : decode cX7_noUser 11 = .ok (.goto 4, 3) := by decide +kernel
theorem dX7_noUser_14 : decode cX7_noUser 14 = .ok (.iconst 0, 1) := by decide +kernel
theorem dX7_noUser_15 : decode cX7_noUser 15 = .ok (.ireturn, 1) := by decide +kernel
theorem dX7_noItem_0 : decode cX7_noItem 0 = .ok (.iload_n 0, 1) := by decide +kernel
theorem dX7_noItem_1 : decode cX7_noItem 1 = .ok (.ifCond .lt 9, 3) := by decide +kernel
theorem dX7_noItem_4 : decode cX7_noItem 4 = .ok (.iload_n 0, 1) := by decide +kernel
theorem dX7_noItem_5 : decode cX7_noItem 5 = .ok (.bipush 15, 2) := by decide +kernel
theorem dX7_noItem_7 : decode cX7_noItem 7 = .ok (.if_icmp .le 7, 3) := by decide +kernel
theorem dX7_noItem_10 : decode cX7_noItem 10 = .ok (.iconst 1, 1) := by decide +kernel
theorem dX7_noItem_11 : decode cX7_noItem 11 = .ok (.goto 4, 3) := by decide +kernel
theorem dX7_noItem_14 : decode cX7_noItem 14 = .ok (.iconst 0, 1) := by decide +kernel
theorem dX7_noItem_15 : decode cX7_noItem 15 = .ok (.ireturn, 1) := by decide +kernel
theorem dX7_put_0 : decode cX7_put 0 = .ok (.aload_n 0, 1) := by decide +kernel
theorem dX7_put_1 : decode cX7_put 1 = .ok (.getfield 41, 3) := by decide +kernel
theorem dX7_put_4 : decode cX7_put 4 = .ok (.ifCond .eq 4, 3) := by decide +kernel
theorem dX7_put_7 : decode cX7_put 7 = .ok (.return_, 1) := by decide +kernel
theorem dX7_put_8 : decode cX7_put 8 = .ok (.aload_n 0, 1) := by decide +kernel
theorem dX7_put_9 : decode cX7_put 9 = .ok (.getfield 16, 3) := by decide +kernel
theorem dX7_put_12 : decode cX7_put 12 = .ok (.ifCond .ne 9, 3) := by decide +kernel
theorem dX7_put_15 : decode cX7_put 15 = .ok (.aload_n 0, 1) := by decide +kernel
theorem dX7_put_16 : decode cX7_put 16 = .ok (.iconst 1, 1) := by decide +kernel
theorem dX7_put_17 : decode cX7_put 17 = .ok (.putfield 41, 3) := by decide +kernel
theorem dX7_put_20 : decode cX7_put 20 = .ok (.return_, 1) := by decide +kernel
theorem dX7_put_21 : decode cX7_put 21 = .ok (.aload_n 0, 1) := by decide +kernel
theorem dX7_put_22 : decode cX7_put 22 = .ok (.aload_n 0, 1) := by decide +kernel
theorem dX7_put_23 : decode cX7_put 23 = .ok (.getfield 16, 3) := by decide +kernel
theorem dX7_put_26 : decode cX7_put 26 = .ok (.ifCond .le 12, 3) := by decide +kernel
theorem dX7_put_29 : decode cX7_put 29 = .ok (.aload_n 0, 1) := by decide +kernel
theorem dX7_put_30 : decode cX7_put 30 = .ok (.getfield 16, 3) := by decide +kernel
theorem dX7_put_33 : decode cX7_put 33 = .ok (.iconst 1, 1) := by decide +kernel
theorem dX7_put_34 : decode cX7_put 34 = .ok (.isub, 1) := by decide +kernel
theorem dX7_put_35 : decode cX7_put 35 = .ok (.goto 7, 3) := by decide +kernel
theorem dX7_put_38 : decode cX7_put 38 = .ok (.aload_n 0, 1) := by decide +kernel
theorem dX7_put_39 : decode cX7_put 39 = .ok (.getfield 16, 3) := by decide +kernel
theorem dX7_put_42 : decode cX7_put 42 = .ok (.putfield 16, 3) := by decide +kernel
theorem dX7_put_45 : decode cX7_put 45 = .ok (.aload_n 0, 1) := by decide +kernel
theorem dX7_put_46 : decode cX7_put 46 = .ok (.getfield 13, 3) := by decide +kernel
theorem dX7_put_49 : decode cX7_put 49 = .ok (.iload_n 1, 1) := by decide +kernel
theorem dX7_put_50 : decode cX7_put 50 = .ok (.iload_n 2, 1) := by decide +kernel
theorem dX7_put_51 : decode cX7_put 51 = .ok (.iastore, 1) := by decide +kernel
theorem dX7_put_52 : decode cX7_put 52 = .ok (.return_, 1) := by decide +kernel
set_option maxRecDepth 20000 in
theorem ggX7_rate_X7_noUser : GoodIn wsX7_rate wsX7_noUser := goodIn_r _ [8] (by decide +kernel) (by decide +kernel)
set_option maxRecDepth 20000 in
theorem gX7_rate_X7_noUser : GoodIn wsX7_rate (va_wsS RX7 45 yX7_noUser wsX7_noUser) := goodIn_app (goodIn_of _ (by decide +kernel)) ggX7_rate_X7_noUser
set_option maxRecDepth 20000 in
theorem ggX7_rate_X7_noItem : GoodIn wsX7_rate wsX7_noItem := goodIn_r _ [11] (by decide +kernel) (by decide +kernel)
set_option maxRecDepth 20000 in
theorem gX7_rate_X7_noItem : GoodIn wsX7_rate (va_wsS RX7 49 yX7_noItem wsX7_noItem) := goodIn_app (goodIn_of _ (by decide +kernel)) ggX7_rate_X7_noItem
set_option maxRecDepth 20000 in
theorem ggX7_rate_X7_put : GoodIn wsX7_rate wsX7_put := goodIn_r _ [15, 1, 16, 17, 23, 24, 25, 26, 27, 28, 29, 30, 31] (by decide +kernel) (by decide +kernel)
set_option maxRecDepth 20000 in
theorem gX7_rate_X7_put : GoodIn wsX7_rate (wsV RX7 58 RX7 yX7_put wsX7_put) := goodIn_app (goodIn_of _ (by decide +kernel)) ggX7_rate_X7_put
set_option maxRecDepth 20000 in
theorem ggX7_rate_X7_mix : GoodIn wsX7_rate wsX7_mix := goodIn_r _ [20, 21, 22] (by decide +kernel) (by decide +kernel)
set_option maxRecDepth 20000 in
theorem gX7_rate_X7_mix : GoodIn wsX7_rate (va_wsS RX7 37 yX7_mix wsX7_mix) := goodIn_app (goodIn_of _ (by decide +kernel)) ggX7_rate_X7_mix
theorem dX7_rate_0 : decode cX7_rate 0 = .ok (.aload_n 0, 1) := by decide +kernel
theorem dX7_rate_1 : decode cX7_rate 1 = .ok (.getfield 41, 3) := by decide +kernel
theorem dX7_rate_4 : decode cX7_rate 4 = .ok (.ifCond .eq 6, 3) := by decide +kernel
theorem dX7_rate_7 : decode cX7_rate 7 = .ok (.bipush (-3), 2) := by decide +kernel
theorem dX7_rate_9 : decode cX7_rate 9 = .ok (.ireturn, 1) := by decide +kernel
theorem dX7_rate_10 : decode cX7_rate 10 = .ok (.iload_n 1, 1) := by decide +kernel
theorem dX7_rate_11 : decode cX7_rate 11 = .ok (.invokestatic 45, 3) := by decide +kernel
theorem dX7_rate_14 : decode cX7_rate 14 = .ok (.ifCond .ne 19, 3) := by decide +kernel
theorem dX7_rate_17 : decode cX7_rate 17 = .ok (.iload_n 2, 1) := by decide +kernel
theorem dX7_rate_18 : decode cX7_rate 18 = .ok (.invokestatic 49, 3) := by decide +kernel
theorem dX7_rate_21 : decode cX7_rate 21 = .ok (.ifCond .ne 12, 3) := by decide +kernel
theorem dX7_rate_24 : decode cX7_rate 24 = .ok (.iload_n 3, 1) := by decide +kernel
theorem dX7_rate_25 : decode cX7_rate 25 = .ok (.ifCond .lt 8, 3) := by decide +kernel
theorem dX7_rate_28 : decode cX7_rate 28 = .ok (.iload_n 3, 1) := by decide +kernel
theorem dX7_rate_29 : decode cX7_rate 29 = .ok (.iconst 5, 1) := by decide +kernel
theorem dX7_rate_30 : decode cX7_rate 30 = .ok (.if_icmp .le 6, 3) := by decide +kernel
theorem dX7_rate_33 : decode cX7_rate 33 = .ok (.bipush (-2), 2) := by decide +kernel
theorem dX7_rate_35 : decode cX7_rate 35 = .ok (.ireturn, 1) := by decide +kernel
theorem dX7_rate_36 : decode cX7_rate 36 = .ok (.aload_n 0, 1) := by decide +kernel
theorem dX7_rate_37 : decode cX7_rate 37 = .ok (.getfield 52, 3) := by decide +kernel
theorem dX7_rate_40 : decode cX7_rate 40 = .ok (.aload_n 0, 1) := by decide +kernel
theorem dX7_rate_41 : decode cX7_rate 41 = .ok (.getfield 55, 3) := by decide +kernel
theorem dX7_rate_44 : decode cX7_rate 44 = .ok (.bipush 40, 2) := by decide +kernel
theorem dX7_rate_46 : decode cX7_rate 46 = .ok (.iadd, 1) := by decide +kernel
theorem dX7_rate_47 : decode cX7_rate 47 = .ok (.if_icmp .ne 6, 3) := by decide +kernel
theorem dX7_rate_50 : decode cX7_rate 50 = .ok (.bipush (-4), 2) := by decide +kernel
theorem dX7_rate_52 : decode cX7_rate 52 = .ok (.ireturn, 1) := by decide +kernel
theorem dX7_rate_53 : decode cX7_rate 53 = .ok (.aload_n 0, 1) := by decide +kernel
theorem dX7_rate_54 : decode cX7_rate 54 = .ok (.getfield 52, 3) := by decide +kernel
theorem dX7_rate_57 : decode cX7_rate 57 = .ok (.iconst 1, 1) := by decide +kernel
theorem dX7_rate_58 : decode cX7_rate 58 = .ok (.iadd, 1) := by decide +kernel
theorem dX7_rate_59 : decode cX7_rate 59 = .ok (.istore 4, 2) := by decide +kernel
theorem dX7_rate_61 : decode cX7_rate 61 = .ok (.bipush 52, 2) := by decide +kernel
theorem dX7_rate_63 : decode cX7_rate 63 = .ok (.iconst 3, 1) := by decide +kernel
theorem dX7_rate_64 : decode cX7_rate 64 = .ok (.iload 4, 2) := by decide +kernel
theorem dX7_rate_66 : decode cX7_rate 66 = .ok (.bipush 40, 2) := by decide +kernel
theorem dX7_rate_68 : decode cX7_rate 68 = .ok (.irem, 1) := by decide +kernel
theorem dX7_rate_69 : decode cX7_rate 69 = .ok (.imul, 1) := by decide +kernel
theorem dX7_rate_70 : decode cX7_rate 70 = .ok (.iadd, 1) := by decide +kernel
theorem dX7_rate_71 : decode cX7_rate 71 = .ok (.istore 5, 2) := by decide +kernel
theorem dX7_rate_73 : decode cX7_rate 73 = .ok (.sipush 1000, 3) := by decide +kernel
theorem dX7_rate_76 : decode cX7_rate 76 = .ok (.iload_n 1, 1) := by decide +kernel
theorem dX7_rate_77 : decode cX7_rate 77 = .ok (.imul, 1) := by decide +kernel
theorem dX7_rate_78 : decode cX7_rate 78 = .ok (.bipush 10, 2) := by decide +kernel
theorem dX7_rate_80 : decode cX7_rate 80 = .ok (.iload_n 2, 1) := by decide +kernel
theorem dX7_rate_81 : decode cX7_rate 81 = .ok (.imul, 1) := by decide +kernel
theorem dX7_rate_82 : decode cX7_rate 82 = .ok (.iadd, 1) := by decide +kernel
theorem dX7_rate_83 : decode cX7_rate 83 = .ok (.iload_n 3, 1) := by decide +kernel
theorem dX7_rate_84 : decode cX7_rate 84 = .ok (.iadd, 1) := by decide +kernel
theorem dX7_rate_85 : decode cX7_rate 85 = .ok (.istore 6, 2) := by decide +kernel
theorem dX7_rate_87 : decode cX7_rate 87 = .ok (.aload_n 0, 1) := by decide +kernel
theorem dX7_rate_88 : decode cX7_rate 88 = .ok (.iload 5, 2) := by decide +kernel
theorem dX7_rate_90 : decode cX7_rate 90 = .ok (.iload 4, 2) := by decide +kernel
theorem dX7_rate_92 : decode cX7_rate 92 = .ok (.invokevirtual 58, 3) := by decide +kernel
theorem dX7_rate_95 : decode cX7_rate 95 = .ok (.aload_n 0, 1) := by decide +kernel
theorem dX7_rate_96 : decode cX7_rate 96 = .ok (.iload 5, 2) := by decide +kernel
theorem dX7_rate_98 : decode cX7_rate 98 = .ok (.iconst 1, 1) := by decide +kernel
theorem dX7_rate_99 : decode cX7_rate 99 = .ok (.iadd, 1) := by decide +kernel
theorem dX7_rate_100 : decode cX7_rate 100 = .ok (.iload 6, 2) := by decide +kernel
theorem dX7_rate_102 : decode cX7_rate 102 = .ok (.invokevirtual 58, 3) := by decide +kernel
theorem dX7_rate_105 : decode cX7_rate 105 = .ok (.aload_n 0, 1) := by decide +kernel
theorem dX7_rate_106 : decode cX7_rate 106 = .ok (.iload 5, 2) := by decide +kernel
theorem dX7_rate_108 : decode cX7_rate 108 = .ok (.iconst 2, 1) := by decide +kernel
theorem dX7_rate_109 : decode cX7_rate 109 = .ok (.iadd, 1) := by decide +kernel
theorem dX7_rate_110 : decode cX7_rate 110 = .ok (.iconst 2, 1) := by decide +kernel
theorem dX7_rate_111 : decode cX7_rate 111 = .ok (.iload 4, 2) := by decide +kernel
theorem dX7_rate_113 : decode cX7_rate 113 = .ok (.invokestatic 37, 3) := by decide +kernel
theorem dX7_rate_116 : decode cX7_rate 116 = .ok (.iload 6, 2) := by decide +kernel
theorem dX7_rate_118 : decode cX7_rate 118 = .ok (.invokestatic 37, 3) := by decide +kernel
theorem dX7_rate_121 : decode cX7_rate 121 = .ok (.iconst 1, 1) := by decide +kernel
theorem dX7_rate_122 : decode cX7_rate 122 = .ok (.ior, 1) := by decide +kernel
theorem dX7_rate_123 : decode cX7_rate 123 = .ok (.invokevirtual 58, 3) := by decide +kernel
theorem dX7_rate_126 : decode cX7_rate 126 = .ok (.aload_n 0, 1) := by decide +kernel
theorem dX7_rate_127 : decode cX7_rate 127 = .ok (.getfield 41, 3) := by decide +kernel
theorem dX7_rate_130 : decode cX7_rate 130 = .ok (.ifCond .eq 6, 3) := by decide +kernel
theorem dX7_rate_133 : decode cX7_rate 133 = .ok (.bipush (-3), 2) := by decide +kernel
theorem dX7_rate_135 : decode cX7_rate 135 = .ok (.ireturn, 1) := by decide +kernel
theorem dX7_rate_136 : decode cX7_rate 136 = .ok (.aload_n 0, 1) := by decide +kernel
theorem dX7_rate_137 : decode cX7_rate 137 = .ok (.getfield 7, 3) := by decide +kernel
theorem dX7_rate_140 : decode cX7_rate 140 = .ok (.bipush 16, 2) := by decide +kernel
theorem dX7_rate_142 : decode cX7_rate 142 = .ok (.iload_n 1, 1) := by decide +kernel
theorem dX7_rate_143 : decode cX7_rate 143 = .ok (.imul, 1) := by decide +kernel
theorem dX7_rate_144 : decode cX7_rate 144 = .ok (.iload_n 2, 1) := by decide +kernel
theorem dX7_rate_145 : decode cX7_rate 145 = .ok (.iadd, 1) := by decide +kernel
theorem dX7_rate_146 : decode cX7_rate 146 = .ok (.iaload, 1) := by decide +kernel
theorem dX7_rate_147 : decode cX7_rate 147 = .ok (.istore 7, 2) := by decide +kernel
theorem dX7_rate_149 : decode cX7_rate 149 = .ok (.aload_n 0, 1) := by decide +kernel
theorem dX7_rate_150 : decode cX7_rate 150 = .ok (.getfield 7, 3) := by decide +kernel
theorem dX7_rate_153 : decode cX7_rate 153 = .ok (.bipush 16, 2) := by decide +kernel
theorem dX7_rate_155 : decode cX7_rate 155 = .ok (.iload_n 1, 1) := by decide +kernel
theorem dX7_rate_156 : decode cX7_rate 156 = .ok (.imul, 1) := by decide +kernel
theorem dX7_rate_157 : decode cX7_rate 157 = .ok (.iload_n 2, 1) := by decide +kernel
theorem dX7_rate_158 : decode cX7_rate 158 = .ok (.iadd, 1) := by decide +kernel
theorem dX7_rate_159 : decode cX7_rate 159 = .ok (.iload_n 3, 1) := by decide +kernel
theorem dX7_rate_160 : decode cX7_rate 160 = .ok (.iastore, 1) := by decide +kernel
theorem dX7_rate_161 : decode cX7_rate 161 = .ok (.aload_n 0, 1) := by decide +kernel
theorem dX7_rate_162 : decode cX7_rate 162 = .ok (.iload 4, 2) := by decide +kernel
theorem dX7_rate_164 : decode cX7_rate 164 = .ok (.putfield 52, 3) := by decide +kernel
theorem dX7_rate_167 : decode cX7_rate 167 = .ok (.iload 7, 2) := by decide +kernel
theorem dX7_rate_169 : decode cX7_rate 169 = .ok (.ireturn, 1) := by decide +kernel
set_option maxRecDepth 20000 in
theorem ggX7_good_X7_checked : GoodIn wsX7_good wsX7_checked := goodIn_r _ [7, 1, 8, 9, 6, 10, 11, 12, 13, 14, 15, 16, 17, 18, 19, 20, 21] (by decide +kernel) (by decide +kernel)
set_option maxRecDepth 20000 in
theorem gX7_good_X7_checked : GoodIn wsX7_good (wsV RX7 31 RX7 yX7_checked wsX7_checked) := goodIn_app (goodIn_of _ (by decide +kernel)) ggX7_good_X7_checked
theorem dX7_good_0 : decode cX7_good 0 = .ok (.aload_n 0, 1) := by decide +kernel
theorem dX7_good_1 : decode cX7_good 1 = .ok (.getfield 13, 3) := by decide +kernel
theorem dX7_good_4 : decode cX7_good 4 = .ok (.iload_n 1, 1) := by decide +kernel
theorem dX7_good_5 : decode cX7_good 5 = .ok (.bipush 25, 2) := by decide +kernel
theorem dX7_good_7 : decode cX7_good 7 = .ok (.iadd, 1) := by decide +kernel
theorem dX7_good_8 : decode cX7_good 8 = .ok (.iaload, 1) := by decide +kernel
theorem dX7_good_9 : decode cX7_good 9 = .ok (.aload_n 0, 1) := by decide +kernel
theorem dX7_good_10 : decode cX7_good 10 = .ok (.iconst 1, 1) := by decide +kernel
theorem dX7_good_11 : decode cX7_good 11 = .ok (.iload_n 1, 1) := by decide +kernel
theorem dX7_good_12 : decode cX7_good 12 = .ok (.bipush 25, 2) := by decide +kernel
theorem dX7_good_14 : decode cX7_good 14 = .ok (.invokevirtual 31, 3) := by decide +kernel
theorem dX7_good_17 : decode cX7_good 17 = .ok (.if_icmp .ne 27, 3) := by decide +kernel
theorem dX7_good_20 : decode cX7_good 20 = .ok (.aload_n 0, 1) := by decide +kernel
theorem dX7_good_21 : decode cX7_good 21 = .ok (.getfield 13, 3) := by decide +kernel
theorem dX7_good_24 : decode cX7_good 24 = .ok (.iload_n 1, 1) := by decide +kernel
theorem dX7_good_25 : decode cX7_good 25 = .ok (.iaload, 1) := by decide +kernel
theorem dX7_good_26 : decode cX7_good 26 = .ok (.ifCond .lt 18, 3) := by decide +kernel
theorem dX7_good_29 : decode cX7_good 29 = .ok (.aload_n 0, 1) := by decide +kernel
theorem dX7_good_30 : decode cX7_good 30 = .ok (.getfield 13, 3) := by decide +kernel
theorem dX7_good_33 : decode cX7_good 33 = .ok (.iload_n 1, 1) := by decide +kernel
theorem dX7_good_34 : decode cX7_good 34 = .ok (.iaload, 1) := by decide +kernel
theorem dX7_good_35 : decode cX7_good 35 = .ok (.ldc 62, 2) := by decide +kernel
theorem dX7_good_37 : decode cX7_good 37 = .ok (.if_icmp .gt 7, 3) := by decide +kernel
theorem dX7_good_40 : decode cX7_good 40 = .ok (.iconst 1, 1) := by decide +kernel
theorem dX7_good_41 : decode cX7_good 41 = .ok (.goto 4, 3) := by decide +kernel
theorem dX7_good_44 : decode cX7_good 44 = .ok (.iconst 0, 1) := by decide +kernel
theorem dX7_good_45 : decode cX7_good 45 = .ok (.ireturn, 1) := by decide +kernel
theorem dX7_packed_0 : decode cX7_packed 0 = .ok (.iconst 0, 1) := by decide +kernel
theorem dX7_packed_1 : decode cX7_packed 1 = .ok (.istore_n 3, 1) := by decide +kernel
theorem dX7_packed_2 : decode cX7_packed 2 = .ok (.bipush 7, 2) := by decide +kernel
theorem dX7_packed_4 : decode cX7_packed 4 = .ok (.istore 4, 2) := by decide +kernel
theorem dX7_packed_6 : decode cX7_packed 6 = .ok (.iload 4, 2) := by decide +kernel
theorem dX7_packed_8 : decode cX7_packed 8 = .ok (.ifCond .lt 32, 3) := by decide +kernel
theorem dX7_packed_11 : decode cX7_packed 11 = .ok (.bipush 16, 2) := by decide +kernel
theorem dX7_packed_13 : decode cX7_packed 13 = .ok (.iload_n 3, 1) := by decide +kernel
theorem dX7_packed_14 : decode cX7_packed 14 = .ok (.imul, 1) := by decide +kernel
theorem dX7_packed_15 : decode cX7_packed 15 = .ok (.aload_n 0, 1) := by decide +kernel
theorem dX7_packed_16 : decode cX7_packed 16 = .ok (.getfield 7, 3) := by decide +kernel
theorem dX7_packed_19 : decode cX7_packed 19 = .ok (.bipush 16, 2) := by decide +kernel
theorem dX7_packed_21 : decode cX7_packed 21 = .ok (.iload_n 1, 1) := by decide +kernel
theorem dX7_packed_22 : decode cX7_packed 22 = .ok (.imul, 1) := by decide +kernel
theorem dX7_packed_23 : decode cX7_packed 23 = .ok (.bipush 8, 2) := by decide +kernel
theorem dX7_packed_25 : decode cX7_packed 25 = .ok (.iload_n 2, 1) := by decide +kernel
theorem dX7_packed_26 : decode cX7_packed 26 = .ok (.imul, 1) := by decide +kernel
theorem dX7_packed_27 : decode cX7_packed 27 = .ok (.iadd, 1) := by decide +kernel
theorem dX7_packed_28 : decode cX7_packed 28 = .ok (.iload 4, 2) := by decide +kernel
theorem dX7_packed_30 : decode cX7_packed 30 = .ok (.iadd, 1) := by decide +kernel
theorem dX7_packed_31 : decode cX7_packed 31 = .ok (.iaload, 1) := by decide +kernel
theorem dX7_packed_32 : decode cX7_packed 32 = .ok (.iadd, 1) := by decide +kernel
theorem dX7_packed_33 : decode cX7_packed 33 = .ok (.istore_n 3, 1) := by decide +kernel
theorem dX7_packed_34 : decode cX7_packed 34 = .ok (.iinc 4 (-1), 3) := by decide +kernel
theorem dX7_packed_37 : decode cX7_packed 37 = .ok (.goto (-31), 3) := by decide +kernel
theorem dX7_packed_40 : decode cX7_packed 40 = .ok (.iload_n 3, 1) := by decide +kernel
theorem dX7_packed_41 : decode cX7_packed 41 = .ok (.ireturn, 1) := by decide +kernel
set_option maxRecDepth 20000 in
theorem ggX7_snapshot_X7_good : GoodIn wsX7_snapshot wsX7_good := goodIn_r _ [9, 2, 10, 11, 12, 13, 8, 14, 15, 16, 17, 18, 19, 30, 31, 32, 33, 34, 35, 36, 37, 38] (by decide +kernel) (by decide +kernel)
set_option maxRecDepth 20000 in
theorem gX7_snapshot_X7_good : GoodIn wsX7_snapshot (wsV RX7 63 RX7 yX7_good wsX7_good) := goodIn_app (goodIn_of _ (by decide +kernel)) ggX7_snapshot_X7_good
set_option maxRecDepth 20000 in
theorem ggX7_snapshot_X7_mix : GoodIn wsX7_snapshot wsX7_mix := goodIn_r _ [17, 18, 19] (by decide +kernel) (by decide +kernel)
set_option maxRecDepth 20000 in
theorem gX7_snapshot_X7_mix : GoodIn wsX7_snapshot (va_wsS RX7 37 yX7_mix wsX7_mix) := goodIn_app (goodIn_of _ (by decide +kernel)) ggX7_snapshot_X7_mix
set_option maxRecDepth 20000 in
theorem ggX7_snapshot_X7_put : GoodIn wsX7_snapshot wsX7_put := goodIn_r _ [23, 1, 24, 2, 30, 31, 32, 33, 34, 35, 36, 37, 38] (by decide +kernel) (by decide +kernel)
set_option maxRecDepth 20000 in
theorem gX7_snapshot_X7_put : GoodIn wsX7_snapshot (wsV RX7 58 RX7 yX7_put wsX7_put) := goodIn_app (goodIn_of _ (by decide +kernel)) ggX7_snapshot_X7_put
set_option maxRecDepth 20000 in
theorem ggX7_snapshot_X7_packed : GoodIn wsX7_snapshot wsX7_packed := goodIn_r _ [28, 29, 30, 31, 32, 33, 34, 35, 36, 37, 38] (by decide +kernel) (by decide +kernel)
set_option maxRecDepth 20000 in
theorem gX7_snapshot_X7_packed : GoodIn wsX7_snapshot (wsV RX7 66 RX7 yX7_packed wsX7_packed) := goodIn_app (goodIn_of _ (by decide +kernel)) ggX7_snapshot_X7_packed
theorem dX7_snapshot_0 : decode cX7_snapshot 0 = .ok (.aload_n 0, 1) := by decide +kernel
theorem dX7_snapshot_1 : decode cX7_snapshot 1 = .ok (.getfield 41, 3) := by decide +kernel
theorem dX7_snapshot_4 : decode cX7_snapshot 4 = .ok (.ifCond .eq 6, 3) := by decide +kernel
theorem dX7_snapshot_7 : decode cX7_snapshot 7 = .ok (.bipush (-3), 2) := by decide +kernel
theorem dX7_snapshot_9 : decode cX7_snapshot 9 = .ok (.ireturn, 1) := by decide +kernel
theorem dX7_snapshot_10 : decode cX7_snapshot 10 = .ok (.aload_n 0, 1) := by decide +kernel
theorem dX7_snapshot_11 : decode cX7_snapshot 11 = .ok (.iconst 0, 1) := by decide +kernel
theorem dX7_snapshot_12 : decode cX7_snapshot 12 = .ok (.invokevirtual 63, 3) := by decide +kernel
theorem dX7_snapshot_15 : decode cX7_snapshot 15 = .ok (.istore_n 1, 1) := by decide +kernel
theorem dX7_snapshot_16 : decode cX7_snapshot 16 = .ok (.aload_n 0, 1) := by decide +kernel
theorem dX7_snapshot_17 : decode cX7_snapshot 17 = .ok (.bipush 26, 2) := by decide +kernel
theorem dX7_snapshot_19 : decode cX7_snapshot 19 = .ok (.invokevirtual 63, 3) := by decide +kernel
theorem dX7_snapshot_22 : decode cX7_snapshot 22 = .ok (.istore_n 2, 1) := by decide +kernel
theorem dX7_snapshot_23 : decode cX7_snapshot 23 = .ok (.iload_n 2, 1) := by decide +kernel
theorem dX7_snapshot_24 : decode cX7_snapshot 24 = .ok (.ifCond .eq 27, 3) := by decide +kernel
theorem dX7_snapshot_27 : decode cX7_snapshot 27 = .ok (.iload_n 1, 1) := by decide +kernel
theorem dX7_snapshot_28 : decode cX7_snapshot 28 = .ok (.ifCond .eq 19, 3) := by decide +kernel
theorem dX7_snapshot_31 : decode cX7_snapshot 31 = .ok (.aload_n 0, 1) := by decide +kernel
theorem dX7_snapshot_32 : decode cX7_snapshot 32 = .ok (.getfield 13, 3) := by decide +kernel
theorem dX7_snapshot_35 : decode cX7_snapshot 35 = .ok (.iconst 0, 1) := by decide +kernel
theorem dX7_snapshot_36 : decode cX7_snapshot 36 = .ok (.iaload, 1) := by decide +kernel
theorem dX7_snapshot_37 : decode cX7_snapshot 37 = .ok (.aload_n 0, 1) := by decide +kernel
theorem dX7_snapshot_38 : decode cX7_snapshot 38 = .ok (.getfield 13, 3) := by decide +kernel
theorem dX7_snapshot_41 : decode cX7_snapshot 41 = .ok (.bipush 26, 2) := by decide +kernel
theorem dX7_snapshot_43 : decode cX7_snapshot 43 = .ok (.iaload, 1) := by decide +kernel
theorem dX7_snapshot_44 : decode cX7_snapshot 44 = .ok (.if_icmp .ge 7, 3) := by decide +kernel
theorem dX7_snapshot_47 : decode cX7_snapshot 47 = .ok (.iconst 0, 1) := by decide +kernel
theorem dX7_snapshot_48 : decode cX7_snapshot 48 = .ok (.goto 5, 3) := by decide +kernel
theorem dX7_snapshot_51 : decode cX7_snapshot 51 = .ok (.bipush 26, 2) := by decide +kernel
theorem dX7_snapshot_53 : decode cX7_snapshot 53 = .ok (.istore_n 3, 1) := by decide +kernel
theorem dX7_snapshot_54 : decode cX7_snapshot 54 = .ok (.iconst 1, 1) := by decide +kernel
theorem dX7_snapshot_55 : decode cX7_snapshot 55 = .ok (.aload_n 0, 1) := by decide +kernel
theorem dX7_snapshot_56 : decode cX7_snapshot 56 = .ok (.getfield 52, 3) := by decide +kernel
theorem dX7_snapshot_59 : decode cX7_snapshot 59 = .ok (.invokestatic 37, 3) := by decide +kernel
theorem dX7_snapshot_62 : decode cX7_snapshot 62 = .ok (.istore 4, 2) := by decide +kernel
theorem dX7_snapshot_64 : decode cX7_snapshot 64 = .ok (.aload_n 0, 1) := by decide +kernel
theorem dX7_snapshot_65 : decode cX7_snapshot 65 = .ok (.iload_n 3, 1) := by decide +kernel
theorem dX7_snapshot_66 : decode cX7_snapshot 66 = .ok (.aload_n 0, 1) := by decide +kernel
theorem dX7_snapshot_67 : decode cX7_snapshot 67 = .ok (.getfield 52, 3) := by decide +kernel
theorem dX7_snapshot_70 : decode cX7_snapshot 70 = .ok (.invokevirtual 58, 3) := by decide +kernel
theorem dX7_snapshot_73 : decode cX7_snapshot 73 = .ok (.iconst 0, 1) := by decide +kernel
theorem dX7_snapshot_74 : decode cX7_snapshot 74 = .ok (.istore 5, 2) := by decide +kernel
theorem dX7_snapshot_76 : decode cX7_snapshot 76 = .ok (.iload 5, 2) := by decide +kernel
theorem dX7_snapshot_78 : decode cX7_snapshot 78 = .ok (.bipush 12, 2) := by decide +kernel
theorem dX7_snapshot_80 : decode cX7_snapshot 80 = .ok (.if_icmp .ge 60, 3) := by decide +kernel
theorem dX7_snapshot_83 : decode cX7_snapshot 83 = .ok (.iconst 0, 1) := by decide +kernel
theorem dX7_snapshot_84 : decode cX7_snapshot 84 = .ok (.istore 6, 2) := by decide +kernel
theorem dX7_snapshot_86 : decode cX7_snapshot 86 = .ok (.iload 6, 2) := by decide +kernel
theorem dX7_snapshot_88 : decode cX7_snapshot 88 = .ok (.iconst 2, 1) := by decide +kernel
theorem dX7_snapshot_89 : decode cX7_snapshot 89 = .ok (.if_icmp .ge 45, 3) := by decide +kernel
theorem dX7_snapshot_92 : decode cX7_snapshot 92 = .ok (.aload_n 0, 1) := by decide +kernel
theorem dX7_snapshot_93 : decode cX7_snapshot 93 = .ok (.iload 5, 2) := by decide +kernel
theorem dX7_snapshot_95 : decode cX7_snapshot 95 = .ok (.iload 6, 2) := by decide +kernel
theorem dX7_snapshot_97 : decode cX7_snapshot 97 = .ok (.invokevirtual 66, 3) := by decide +kernel
theorem dX7_snapshot_100 : decode cX7_snapshot 100 = .ok (.istore 7, 2) := by decide +kernel
theorem dX7_snapshot_102 : decode cX7_snapshot 102 = .ok (.aload_n 0, 1) := by decide +kernel
theorem dX7_snapshot_103 : decode cX7_snapshot 103 = .ok (.iload_n 3, 1) := by decide +kernel
theorem dX7_snapshot_104 : decode cX7_snapshot 104 = .ok (.iconst 1, 1) := by decide +kernel
theorem dX7_snapshot_105 : decode cX7_snapshot 105 = .ok (.iadd, 1) := by decide +kernel
theorem dX7_snapshot_106 : decode cX7_snapshot 106 = .ok (.iconst 2, 1) := by decide +kernel
theorem dX7_snapshot_107 : decode cX7_snapshot 107 = .ok (.iload 5, 2) := by decide +kernel
theorem dX7_snapshot_109 : decode cX7_snapshot 109 = .ok (.imul, 1) := by decide +kernel
theorem dX7_snapshot_110 : decode cX7_snapshot 110 = .ok (.iadd, 1) := by decide +kernel
theorem dX7_snapshot_111 : decode cX7_snapshot 111 = .ok (.iload 6, 2) := by decide +kernel
theorem dX7_snapshot_113 : decode cX7_snapshot 113 = .ok (.iadd, 1) := by decide +kernel
theorem dX7_snapshot_114 : decode cX7_snapshot 114 = .ok (.iload 7, 2) := by decide +kernel
theorem dX7_snapshot_116 : decode cX7_snapshot 116 = .ok (.invokevirtual 58, 3) := by decide +kernel
theorem dX7_snapshot_119 : decode cX7_snapshot 119 = .ok (.iload 4, 2) := by decide +kernel
theorem dX7_snapshot_121 : decode cX7_snapshot 121 = .ok (.iload 7, 2) := by decide +kernel
theorem dX7_snapshot_123 : decode cX7_snapshot 123 = .ok (.invokestatic 37, 3) := by decide +kernel
theorem dX7_snapshot_126 : decode cX7_snapshot 126 = .ok (.istore 4, 2) := by decide +kernel
theorem dX7_snapshot_128 : decode cX7_snapshot 128 = .ok (.iinc 6 1, 3) := by decide +kernel
theorem dX7_snapshot_131 : decode cX7_snapshot 131 = .ok (.goto (-45), 3) := by decide +kernel
theorem dX7_snapshot_134 : decode cX7_snapshot 134 = .ok (.iinc 5 1, 3) := by decide +kernel
theorem dX7_snapshot_137 : decode cX7_snapshot 137 = .ok (.goto (-61), 3) := by decide +kernel
theorem dX7_snapshot_140 : decode cX7_snapshot 140 = .ok (.aload_n 0, 1) := by decide +kernel
theorem dX7_snapshot_141 : decode cX7_snapshot 141 = .ok (.iload_n 3, 1) := by decide +kernel
theorem dX7_snapshot_142 : decode cX7_snapshot 142 = .ok (.bipush 25, 2) := by decide +kernel
theorem dX7_snapshot_144 : decode cX7_snapshot 144 = .ok (.iadd, 1) := by decide +kernel
theorem dX7_snapshot_145 : decode cX7_snapshot 145 = .ok (.iload 4, 2) := by decide +kernel
theorem dX7_snapshot_147 : decode cX7_snapshot 147 = .ok (.iconst 1, 1) := by decide +kernel
theorem dX7_snapshot_148 : decode cX7_snapshot 148 = .ok (.ior, 1) := by decide +kernel
theorem dX7_snapshot_149 : decode cX7_snapshot 149 = .ok (.invokevirtual 58, 3) := by decide +kernel
theorem dX7_snapshot_152 : decode cX7_snapshot 152 = .ok (.aload_n 0, 1) := by decide +kernel
theorem dX7_snapshot_153 : decode cX7_snapshot 153 = .ok (.getfield 41, 3) := by decide +kernel
theorem dX7_snapshot_156 : decode cX7_snapshot 156 = .ok (.ifCond .eq 6, 3) := by decide +kernel
theorem dX7_snapshot_159 : decode cX7_snapshot 159 = .ok (.bipush (-3), 2) := by decide +kernel
theorem dX7_snapshot_161 : decode cX7_snapshot 161 = .ok (.ireturn, 1) := by decide +kernel
theorem dX7_snapshot_162 : decode cX7_snapshot 162 = .ok (.aload_n 0, 1) := by decide +kernel
theorem dX7_snapshot_163 : decode cX7_snapshot 163 = .ok (.aload_n 0, 1) := by decide +kernel
theorem dX7_snapshot_164 : decode cX7_snapshot 164 = .ok (.getfield 52, 3) := by decide +kernel
theorem dX7_snapshot_167 : decode cX7_snapshot 167 = .ok (.putfield 55, 3) := by decide +kernel
theorem dX7_snapshot_170 : decode cX7_snapshot 170 = .ok (.bipush 26, 2) := by decide +kernel
theorem dX7_snapshot_172 : decode cX7_snapshot 172 = .ok (.ireturn, 1) := by decide +kernel
theorem dX7_power_0 : decode cX7_power 0 = .ok (.iload_n 1, 1) := by decide +kernel
theorem dX7_power_1 : decode cX7_power 1 = .ok (.iconst (-1), 1) := by decide +kernel
theorem dX7_power_2 : decode cX7_power 2 = .ok (.if_icmp .lt 9, 3) := by decide +kernel
theorem dX7_power_5 : decode cX7_power 5 = .ok (.iload_n 1, 1) := by decide +kernel
theorem dX7_power_6 : decode cX7_power 6 = .ok (.bipush 100, 2) := by decide +kernel
theorem dX7_power_8 : decode cX7_power 8 = .ok (.if_icmp .le 5, 3) := by decide +kernel
theorem dX7_power_11 : decode cX7_power 11 = .ok (.iconst 0, 1) := by decide +kernel
theorem dX7_power_12 : decode cX7_power 12 = .ok (.ireturn, 1) := by decide +kernel
theorem dX7_power_13 : decode cX7_power 13 = .ok (.aload_n 0, 1) := by decide +kernel
theorem dX7_power_14 : decode cX7_power 14 = .ok (.iload_n 1, 1) := by decide +kernel
theorem dX7_power_15 : decode cX7_power 15 = .ok (.putfield 16, 3) := by decide +kernel
theorem dX7_power_18 : decode cX7_power 18 = .ok (.iconst 1, 1) := by decide +kernel
theorem dX7_power_19 : decode cX7_power 19 = .ok (.ireturn, 1) := by decide +kernel
set_option maxRecDepth 20000 in
theorem ggX7_redo_X7_checked : GoodIn wsX7_redo wsX7_checked := goodIn_r _ [8, 2, 9, 10, 7, 11, 12, 13, 20, 21, 22, 23, 24, 25, 26, 27, 28] (by decide +kernel) (by decide +kernel)
set_option maxRecDepth 20000 in
theorem gX7_redo_X7_checked : GoodIn wsX7_redo (wsV RX7 31 RX7 yX7_checked wsX7_checked) := goodIn_app (goodIn_of _ (by decide +kernel)) ggX7_redo_X7_checked
set_option maxRecDepth 20000 in
theorem ggX7_redo_X7_noUser : GoodIn wsX7_redo wsX7_noUser := goodIn_r _ [16] (by decide +kernel) (by decide +kernel)
set_option maxRecDepth 20000 in
theorem gX7_redo_X7_noUser : GoodIn wsX7_redo (va_wsS RX7 45 yX7_noUser wsX7_noUser) := goodIn_app (goodIn_of _ (by decide +kernel)) ggX7_redo_X7_noUser
set_option maxRecDepth 20000 in
theorem ggX7_redo_X7_noItem : GoodIn wsX7_redo wsX7_noItem := goodIn_r _ [19] (by decide +kernel) (by decide +kernel)
set_option maxRecDepth 20000 in
theorem gX7_redo_X7_noItem : GoodIn wsX7_redo (va_wsS RX7 49 yX7_noItem wsX7_noItem) := goodIn_app (goodIn_of _ (by decide +kernel)) ggX7_redo_X7_noItem
theorem dX7_redo_0 : decode cX7_redo 0 = .ok (.aload_n 0, 1) := by decide +kernel
theorem dX7_redo_1 : decode cX7_redo 1 = .ok (.getfield 52, 3) := by decide +kernel
theorem dX7_redo_4 : decode cX7_redo 4 = .ok (.iconst 1, 1) := by decide +kernel
theorem dX7_redo_5 : decode cX7_redo 5 = .ok (.iadd, 1) := by decide +kernel
theorem dX7_redo_6 : decode cX7_redo 6 = .ok (.istore_n 1, 1) := by decide +kernel
theorem dX7_redo_7 : decode cX7_redo 7 = .ok (.bipush 52, 2) := by decide +kernel
theorem dX7_redo_9 : decode cX7_redo 9 = .ok (.iconst 3, 1) := by decide +kernel
theorem dX7_redo_10 : decode cX7_redo 10 = .ok (.iload_n 1, 1) := by decide +kernel
theorem dX7_redo_11 : decode cX7_redo 11 = .ok (.bipush 40, 2) := by decide +kernel
theorem dX7_redo_13 : decode cX7_redo 13 = .ok (.irem, 1) := by decide +kernel
theorem dX7_redo_14 : decode cX7_redo 14 = .ok (.imul, 1) := by decide +kernel
theorem dX7_redo_15 : decode cX7_redo 15 = .ok (.iadd, 1) := by decide +kernel
theorem dX7_redo_16 : decode cX7_redo 16 = .ok (.istore_n 2, 1) := by decide +kernel
theorem dX7_redo_17 : decode cX7_redo 17 = .ok (.aload_n 0, 1) := by decide +kernel
theorem dX7_redo_18 : decode cX7_redo 18 = .ok (.getfield 13, 3) := by decide +kernel
theorem dX7_redo_21 : decode cX7_redo 21 = .ok (.iload_n 2, 1) := by decide +kernel
theorem dX7_redo_22 : decode cX7_redo 22 = .ok (.iconst 1, 1) := by decide +kernel
theorem dX7_redo_23 : decode cX7_redo 23 = .ok (.iadd, 1) := by decide +kernel
theorem dX7_redo_24 : decode cX7_redo 24 = .ok (.iaload, 1) := by decide +kernel
theorem dX7_redo_25 : decode cX7_redo 25 = .ok (.istore_n 3, 1) := by decide +kernel
theorem dX7_redo_26 : decode cX7_redo 26 = .ok (.aload_n 0, 1) := by decide +kernel
theorem dX7_redo_27 : decode cX7_redo 27 = .ok (.getfield 13, 3) := by decide +kernel
theorem dX7_redo_30 : decode cX7_redo 30 = .ok (.iload_n 2, 1) := by decide +kernel
theorem dX7_redo_31 : decode cX7_redo 31 = .ok (.iaload, 1) := by decide +kernel
theorem dX7_redo_32 : decode cX7_redo 32 = .ok (.iload_n 1, 1) := by decide +kernel
theorem dX7_redo_33 : decode cX7_redo 33 = .ok (.if_icmp .ne 25, 3) := by decide +kernel
theorem dX7_redo_36 : decode cX7_redo 36 = .ok (.aload_n 0, 1) := by decide +kernel
theorem dX7_redo_37 : decode cX7_redo 37 = .ok (.getfield 13, 3) := by decide +kernel
theorem dX7_redo_40 : decode cX7_redo 40 = .ok (.iload_n 2, 1) := by decide +kernel
theorem dX7_redo_41 : decode cX7_redo 41 = .ok (.iconst 2, 1) := by decide +kernel
theorem dX7_redo_42 : decode cX7_redo 42 = .ok (.iadd, 1) := by decide +kernel
theorem dX7_redo_43 : decode cX7_redo 43 = .ok (.iaload, 1) := by decide +kernel
theorem dX7_redo_44 : decode cX7_redo 44 = .ok (.aload_n 0, 1) := by decide +kernel
theorem dX7_redo_45 : decode cX7_redo 45 = .ok (.iconst 2, 1) := by decide +kernel
theorem dX7_redo_46 : decode cX7_redo 46 = .ok (.iload_n 2, 1) := by decide +kernel
theorem dX7_redo_47 : decode cX7_redo 47 = .ok (.iconst 2, 1) := by decide +kernel
theorem dX7_redo_48 : decode cX7_redo 48 = .ok (.invokevirtual 31, 3) := by decide +kernel
theorem dX7_redo_51 : decode cX7_redo 51 = .ok (.if_icmp .ne 7, 3) := by decide +kernel
theorem dX7_redo_54 : decode cX7_redo 54 = .ok (.iload_n 3, 1) := by decide +kernel
theorem dX7_redo_55 : decode cX7_redo 55 = .ok (.ifCond .ge 5, 3) := by decide +kernel
theorem dX7_redo_58 : decode cX7_redo 58 = .ok (.iconst 0, 1) := by decide +kernel
theorem dX7_redo_59 : decode cX7_redo 59 = .ok (.ireturn, 1) := by decide +kernel
theorem dX7_redo_60 : decode cX7_redo 60 = .ok (.iload_n 3, 1) := by decide +kernel
theorem dX7_redo_61 : decode cX7_redo 61 = .ok (.sipush 1000, 3) := by decide +kernel
theorem dX7_redo_64 : decode cX7_redo 64 = .ok (.idiv, 1) := by decide +kernel
theorem dX7_redo_65 : decode cX7_redo 65 = .ok (.istore 4, 2) := by decide +kernel
theorem dX7_redo_67 : decode cX7_redo 67 = .ok (.iload_n 3, 1) := by decide +kernel
theorem dX7_redo_68 : decode cX7_redo 68 = .ok (.sipush 1000, 3) := by decide +kernel
theorem dX7_redo_71 : decode cX7_redo 71 = .ok (.irem, 1) := by decide +kernel
theorem dX7_redo_72 : decode cX7_redo 72 = .ok (.bipush 10, 2) := by decide +kernel
theorem dX7_redo_74 : decode cX7_redo 74 = .ok (.idiv, 1) := by decide +kernel
theorem dX7_redo_75 : decode cX7_redo 75 = .ok (.istore 5, 2) := by decide +kernel
theorem dX7_redo_77 : decode cX7_redo 77 = .ok (.iload_n 3, 1) := by decide +kernel
theorem dX7_redo_78 : decode cX7_redo 78 = .ok (.bipush 10, 2) := by decide +kernel
theorem dX7_redo_80 : decode cX7_redo 80 = .ok (.irem, 1) := by decide +kernel
theorem dX7_redo_81 : decode cX7_redo 81 = .ok (.istore 6, 2) := by decide +kernel
theorem dX7_redo_83 : decode cX7_redo 83 = .ok (.iload 4, 2) := by decide +kernel
theorem dX7_redo_85 : decode cX7_redo 85 = .ok (.invokestatic 45, 3) := by decide +kernel
theorem dX7_redo_88 : decode cX7_redo 88 = .ok (.ifCond .ne 17, 3) := by decide +kernel
theorem dX7_redo_91 : decode cX7_redo 91 = .ok (.iload 5, 2) := by decide +kernel
theorem dX7_redo_93 : decode cX7_redo 93 = .ok (.invokestatic 49, 3) := by decide +kernel
theorem dX7_redo_96 : decode cX7_redo 96 = .ok (.ifCond .ne 9, 3) := by decide +kernel
theorem dX7_redo_99 : decode cX7_redo 99 = .ok (.iload 6, 2) := by decide +kernel
theorem dX7_redo_101 : decode cX7_redo 101 = .ok (.iconst 5, 1) := by decide +kernel
theorem dX7_redo_102 : decode cX7_redo 102 = .ok (.if_icmp .le 5, 3) := by decide +kernel
theorem dX7_redo_105 : decode cX7_redo 105 = .ok (.iconst 0, 1) := by decide +kernel
theorem dX7_redo_106 : decode cX7_redo 106 = .ok (.ireturn, 1) := by decide +kernel
theorem dX7_redo_107 : decode cX7_redo 107 = .ok (.aload_n 0, 1) := by decide +kernel
theorem dX7_redo_108 : decode cX7_redo 108 = .ok (.getfield 7, 3) := by decide +kernel
theorem dX7_redo_111 : decode cX7_redo 111 = .ok (.bipush 16, 2) := by decide +kernel
theorem dX7_redo_113 : decode cX7_redo 113 = .ok (.iload 4, 2) := by decide +kernel
theorem dX7_redo_115 : decode cX7_redo 115 = .ok (.imul, 1) := by decide +kernel
theorem dX7_redo_116 : decode cX7_redo 116 = .ok (.iload 5, 2) := by decide +kernel
theorem dX7_redo_118 : decode cX7_redo 118 = .ok (.iadd, 1) := by decide +kernel
theorem dX7_redo_119 : decode cX7_redo 119 = .ok (.iload 6, 2) := by decide +kernel
theorem dX7_redo_121 : decode cX7_redo 121 = .ok (.iastore, 1) := by decide +kernel
theorem dX7_redo_122 : decode cX7_redo 122 = .ok (.aload_n 0, 1) := by decide +kernel
theorem dX7_redo_123 : decode cX7_redo 123 = .ok (.iload_n 1, 1) := by decide +kernel
theorem dX7_redo_124 : decode cX7_redo 124 = .ok (.putfield 52, 3) := by decide +kernel
theorem dX7_redo_127 : decode cX7_redo 127 = .ok (.iconst 1, 1) := by decide +kernel
theorem dX7_redo_128 : decode cX7_redo 128 = .ok (.ireturn, 1) := by decide +kernel
set_option maxRecDepth 20000 in
theorem ggX7_restart_X7_good : GoodIn wsX7_restart wsX7_good := goodIn_r _ [11, 3, 12, 13, 14, 15, 10, 16, 17, 18, 19, 20, 21, 32, 33, 34, 35, 36, 37, 38, 39, 40] (by decide +kernel) (by decide +kernel)
set_option maxRecDepth 20000 in
theorem gX7_restart_X7_good : GoodIn wsX7_restart (wsV RX7 63 RX7 yX7_good wsX7_good) := goodIn_app (goodIn_of _ (by decide +kernel)) ggX7_restart_X7_good
set_option maxRecDepth 20000 in
theorem ggX7_restart_X7_redo : GoodIn wsX7_restart wsX7_redo := goodIn_r _ [25, 5, 3, 4, 13, 14, 15, 10, 16, 17, 18, 19, 20, 21, 26, 27, 28, 29, 30, 31, 32, 33, 34, 35, 36, 37, 38, 39, 40] (by decide +kernel) (by decide +kernel)
set_option maxRecDepth 20000 in
theorem gX7_restart_X7_redo : GoodIn wsX7_restart (wsV RX7 69 RX7 yX7_redo wsX7_redo) := goodIn_app (goodIn_of _ (by decide +kernel)) ggX7_restart_X7_redo
theorem dX7_restart_0 : decode cX7_restart 0 = .ok (.aload_n 0, 1) := by decide +kernel
theorem dX7_restart_1 : decode cX7_restart 1 = .ok (.iconst 0, 1) := by decide +kernel
theorem dX7_restart_2 : decode cX7_restart 2 = .ok (.putfield 41, 3) := by decide +kernel
theorem dX7_restart_5 : decode cX7_restart 5 = .ok (.aload_n 0, 1) := by decide +kernel
theorem dX7_restart_6 : decode cX7_restart 6 = .ok (.iconst (-1), 1) := by decide +kernel
theorem dX7_restart_7 : decode cX7_restart 7 = .ok (.putfield 16, 3) := by decide +kernel
theorem dX7_restart_10 : decode cX7_restart 10 = .ok (.aload_n 0, 1) := by decide +kernel
theorem dX7_restart_11 : decode cX7_restart 11 = .ok (.iconst 0, 1) := by decide +kernel
theorem dX7_restart_12 : decode cX7_restart 12 = .ok (.invokevirtual 63, 3) := by decide +kernel
theorem dX7_restart_15 : decode cX7_restart 15 = .ok (.istore_n 1, 1) := by decide +kernel
theorem dX7_restart_16 : decode cX7_restart 16 = .ok (.aload_n 0, 1) := by decide +kernel
theorem dX7_restart_17 : decode cX7_restart 17 = .ok (.bipush 26, 2) := by decide +kernel
theorem dX7_restart_19 : decode cX7_restart 19 = .ok (.invokevirtual 63, 3) := by decide +kernel
theorem dX7_restart_22 : decode cX7_restart 22 = .ok (.istore_n 2, 1) := by decide +kernel
theorem dX7_restart_23 : decode cX7_restart 23 = .ok (.iload_n 2, 1) := by decide +kernel
theorem dX7_restart_24 : decode cX7_restart 24 = .ok (.ifCond .eq 28, 3) := by decide +kernel
theorem dX7_restart_27 : decode cX7_restart 27 = .ok (.iload_n 1, 1) := by decide +kernel
theorem dX7_restart_28 : decode cX7_restart 28 = .ok (.ifCond .eq 19, 3) := by decide +kernel
theorem dX7_restart_31 : decode cX7_restart 31 = .ok (.aload_n 0, 1) := by decide +kernel
theorem dX7_restart_32 : decode cX7_restart 32 = .ok (.getfield 13, 3) := by decide +kernel
theorem dX7_restart_35 : decode cX7_restart 35 = .ok (.bipush 26, 2) := by decide +kernel
theorem dX7_restart_37 : decode cX7_restart 37 = .ok (.iaload, 1) := by decide +kernel
theorem dX7_restart_38 : decode cX7_restart 38 = .ok (.aload_n 0, 1) := by decide +kernel
theorem dX7_restart_39 : decode cX7_restart 39 = .ok (.getfield 13, 3) := by decide +kernel
theorem dX7_restart_42 : decode cX7_restart 42 = .ok (.iconst 0, 1) := by decide +kernel
theorem dX7_restart_43 : decode cX7_restart 43 = .ok (.iaload, 1) := by decide +kernel
theorem dX7_restart_44 : decode cX7_restart 44 = .ok (.if_icmp .le 8, 3) := by decide +kernel
theorem dX7_restart_47 : decode cX7_restart 47 = .ok (.bipush 26, 2) := by decide +kernel
theorem dX7_restart_49 : decode cX7_restart 49 = .ok (.goto 4, 3) := by decide +kernel
theorem dX7_restart_52 : decode cX7_restart 52 = .ok (.iconst 0, 1) := by decide +kernel
theorem dX7_restart_53 : decode cX7_restart 53 = .ok (.istore_n 3, 1) := by decide +kernel
theorem dX7_restart_54 : decode cX7_restart 54 = .ok (.iload_n 1, 1) := by decide +kernel
theorem dX7_restart_55 : decode cX7_restart 55 = .ok (.ifCond .ne 7, 3) := by decide +kernel
theorem dX7_restart_58 : decode cX7_restart 58 = .ok (.iload_n 2, 1) := by decide +kernel
theorem dX7_restart_59 : decode cX7_restart 59 = .ok (.ifCond .eq 7, 3) := by decide +kernel
theorem dX7_restart_62 : decode cX7_restart 62 = .ok (.iconst 1, 1) := by decide +kernel
theorem dX7_restart_63 : decode cX7_restart 63 = .ok (.goto 4, 3) := by decide +kernel
theorem dX7_restart_66 : decode cX7_restart 66 = .ok (.iconst 0, 1) := by decide +kernel
theorem dX7_restart_67 : decode cX7_restart 67 = .ok (.istore 4, 2) := by decide +kernel
theorem dX7_restart_69 : decode cX7_restart 69 = .ok (.iconst 0, 1) := by decide +kernel
theorem dX7_restart_70 : decode cX7_restart 70 = .ok (.istore 5, 2) := by decide +kernel
theorem dX7_restart_72 : decode cX7_restart 72 = .ok (.iload 5, 2) := by decide +kernel
theorem dX7_restart_74 : decode cX7_restart 74 = .ok (.bipush 12, 2) := by decide +kernel
theorem dX7_restart_76 : decode cX7_restart 76 = .ok (.if_icmp .ge 87, 3) := by decide +kernel
theorem dX7_restart_79 : decode cX7_restart 79 = .ok (.iconst 0, 1) := by decide +kernel
theorem dX7_restart_80 : decode cX7_restart 80 = .ok (.istore 6, 2) := by decide +kernel
theorem dX7_restart_82 : decode cX7_restart 82 = .ok (.iload 6, 2) := by decide +kernel
theorem dX7_restart_84 : decode cX7_restart 84 = .ok (.bipush 16, 2) := by decide +kernel
theorem dX7_restart_86 : decode cX7_restart 86 = .ok (.if_icmp .ge 71, 3) := by decide +kernel
theorem dX7_restart_89 : decode cX7_restart 89 = .ok (.aload_n 0, 1) := by decide +kernel
theorem dX7_restart_90 : decode cX7_restart 90 = .ok (.getfield 13, 3) := by decide +kernel
theorem dX7_restart_93 : decode cX7_restart 93 = .ok (.iload_n 3, 1) := by decide +kernel
theorem dX7_restart_94 : decode cX7_restart 94 = .ok (.iconst 1, 1) := by decide +kernel
theorem dX7_restart_95 : decode cX7_restart 95 = .ok (.iadd, 1) := by decide +kernel
theorem dX7_restart_96 : decode cX7_restart 96 = .ok (.iconst 2, 1) := by decide +kernel
theorem dX7_restart_97 : decode cX7_restart 97 = .ok (.iload 5, 2) := by decide +kernel
theorem dX7_restart_99 : decode cX7_restart 99 = .ok (.imul, 1) := by decide +kernel
theorem dX7_restart_100 : decode cX7_restart 100 = .ok (.iadd, 1) := by decide +kernel
theorem dX7_restart_101 : decode cX7_restart 101 = .ok (.iload 6, 2) := by decide +kernel
theorem dX7_restart_103 : decode cX7_restart 103 = .ok (.bipush 8, 2) := by decide +kernel
theorem dX7_restart_105 : decode cX7_restart 105 = .ok (.idiv, 1) := by decide +kernel
theorem dX7_restart_106 : decode cX7_restart 106 = .ok (.iadd, 1) := by decide +kernel
theorem dX7_restart_107 : decode cX7_restart 107 = .ok (.iaload, 1) := by decide +kernel
theorem dX7_restart_108 : decode cX7_restart 108 = .ok (.iconst 4, 1) := by decide +kernel
theorem dX7_restart_109 : decode cX7_restart 109 = .ok (.iload 6, 2) := by decide +kernel
theorem dX7_restart_111 : decode cX7_restart 111 = .ok (.bipush 8, 2) := by decide +kernel
theorem dX7_restart_113 : decode cX7_restart 113 = .ok (.irem, 1) := by decide +kernel
theorem dX7_restart_114 : decode cX7_restart 114 = .ok (.imul, 1) := by decide +kernel
theorem dX7_restart_115 : decode cX7_restart 115 = .ok (.ishr, 1) := by decide +kernel
theorem dX7_restart_116 : decode cX7_restart 116 = .ok (.bipush 15, 2) := by decide +kernel
theorem dX7_restart_118 : decode cX7_restart 118 = .ok (.iand, 1) := by decide +kernel
theorem dX7_restart_119 : decode cX7_restart 119 = .ok (.istore 7, 2) := by decide +kernel
theorem dX7_restart_121 : decode cX7_restart 121 = .ok (.aload_n 0, 1) := by decide +kernel
theorem dX7_restart_122 : decode cX7_restart 122 = .ok (.getfield 7, 3) := by decide +kernel
theorem dX7_restart_125 : decode cX7_restart 125 = .ok (.bipush 16, 2) := by decide +kernel
theorem dX7_restart_127 : decode cX7_restart 127 = .ok (.iload 5, 2) := by decide +kernel
theorem dX7_restart_129 : decode cX7_restart 129 = .ok (.imul, 1) := by decide +kernel
theorem dX7_restart_130 : decode cX7_restart 130 = .ok (.iload 6, 2) := by decide +kernel
theorem dX7_restart_132 : decode cX7_restart 132 = .ok (.iadd, 1) := by decide +kernel
theorem dX7_restart_133 : decode cX7_restart 133 = .ok (.iload 4, 2) := by decide +kernel
theorem dX7_restart_135 : decode cX7_restart 135 = .ok (.ifCond .eq 14, 3) := by decide +kernel
theorem dX7_restart_138 : decode cX7_restart 138 = .ok (.iload 7, 2) := by decide +kernel
theorem dX7_restart_140 : decode cX7_restart 140 = .ok (.iconst 5, 1) := by decide +kernel
theorem dX7_restart_141 : decode cX7_restart 141 = .ok (.if_icmp .gt 8, 3) := by decide +kernel
theorem dX7_restart_144 : decode cX7_restart 144 = .ok (.iload 7, 2) := by decide +kernel
theorem dX7_restart_146 : decode cX7_restart 146 = .ok (.goto 4, 3) := by decide +kernel
theorem dX7_restart_149 : decode cX7_restart 149 = .ok (.iconst 0, 1) := by decide +kernel
theorem dX7_restart_150 : decode cX7_restart 150 = .ok (.iastore, 1) := by decide +kernel
theorem dX7_restart_151 : decode cX7_restart 151 = .ok (.iinc 6 1, 3) := by decide +kernel
theorem dX7_restart_154 : decode cX7_restart 154 = .ok (.goto (-72), 3) := by decide +kernel
theorem dX7_restart_157 : decode cX7_restart 157 = .ok (.iinc 5 1, 3) := by decide +kernel
theorem dX7_restart_160 : decode cX7_restart 160 = .ok (.goto (-88), 3) := by decide +kernel
theorem dX7_restart_163 : decode cX7_restart 163 = .ok (.aload_n 0, 1) := by decide +kernel
theorem dX7_restart_164 : decode cX7_restart 164 = .ok (.iload 4, 2) := by decide +kernel
theorem dX7_restart_166 : decode cX7_restart 166 = .ok (.ifCond .eq 12, 3) := by decide +kernel
theorem dX7_restart_169 : decode cX7_restart 169 = .ok (.aload_n 0, 1) := by decide +kernel
theorem dX7_restart_170 : decode cX7_restart 170 = .ok (.getfield 13, 3) := by decide +kernel
theorem dX7_restart_173 : decode cX7_restart 173 = .ok (.iload_n 3, 1) := by decide +kernel
theorem dX7_restart_174 : decode cX7_restart 174 = .ok (.iaload, 1) := by decide +kernel
theorem dX7_restart_175 : decode cX7_restart 175 = .ok (.goto 4, 3) := by decide +kernel
theorem dX7_restart_178 : decode cX7_restart 178 = .ok (.iconst 0, 1) := by decide +kernel
theorem dX7_restart_179 : decode cX7_restart 179 = .ok (.putfield 52, 3) := by decide +kernel
theorem dX7_restart_182 : decode cX7_restart 182 = .ok (.aload_n 0, 1) := by decide +kernel
theorem dX7_restart_183 : decode cX7_restart 183 = .ok (.aload_n 0, 1) := by decide +kernel
theorem dX7_restart_184 : decode cX7_restart 184 = .ok (.getfield 52, 3) := by decide +kernel
theorem dX7_restart_187 : decode cX7_restart 187 = .ok (.putfield 55, 3) := by decide +kernel
theorem dX7_restart_190 : decode cX7_restart 190 = .ok (.iconst 0, 1) := by decide +kernel
theorem dX7_restart_191 : decode cX7_restart 191 = .ok (.istore 5, 2) := by decide +kernel
theorem dX7_restart_193 : decode cX7_restart 193 = .ok (.iload 5, 2) := by decide +kernel
theorem dX7_restart_195 : decode cX7_restart 195 = .ok (.bipush 40, 2) := by decide +kernel
theorem dX7_restart_197 : decode cX7_restart 197 = .ok (.if_icmp .ge 16, 3) := by decide +kernel
theorem dX7_restart_200 : decode cX7_restart 200 = .ok (.aload_n 0, 1) := by decide +kernel
theorem dX7_restart_201 : decode cX7_restart 201 = .ok (.invokevirtual 69, 3) := by decide +kernel
theorem dX7_restart_204 : decode cX7_restart 204 = .ok (.ifCond .eq 9, 3) := by decide +kernel
theorem dX7_restart_207 : decode cX7_restart 207 = .ok (.iinc 5 1, 3) := by decide +kernel
theorem dX7_restart_210 : decode cX7_restart 210 = .ok (.goto (-17), 3) := by decide +kernel
theorem dX7_restart_213 : decode cX7_restart 213 = .ok (.iload 5, 2) := by decide +kernel
theorem dX7_restart_215 : decode cX7_restart 215 = .ok (.ireturn, 1) := by decide +kernel
theorem dX7_isOn_0 : decode cX7_isOn 0 = .ok (.aload_n 0, 1) := by decide +kernel
theorem dX7_isOn_1 : decode cX7_isOn 1 = .ok (.getfield 41, 3) := by decide +kernel
theorem dX7_isOn_4 : decode cX7_isOn 4 = .ok (.ifCond .ne 7, 3) := by decide +kernel
theorem dX7_isOn_7 : decode cX7_isOn 7 = .ok (.iconst 1, 1) := by decide +kernel
theorem dX7_isOn_8 : decode cX7_isOn 8 = .ok (.goto 4, 3) := by decide +kernel
theorem dX7_isOn_11 : decode cX7_isOn 11 = .ok (.iconst 0, 1) := by decide +kernel
theorem dX7_isOn_12 : decode cX7_isOn 12 = .ok (.ireturn, 1) := by decide +kernel
theorem dX7_word_0 : decode cX7_word 0 = .ok (.iload_n 1, 1) := by decide +kernel
theorem dX7_word_1 : decode cX7_word 1 = .ok (.ifCond .lt 10, 3) := by decide +kernel
theorem dX7_word_4 : decode cX7_word 4 = .ok (.iload_n 1, 1) := by decide +kernel
theorem dX7_word_5 : decode cX7_word 5 = .ok (.sipush 171, 3) := by decide +kernel
theorem dX7_word_8 : decode cX7_word 8 = .ok (.if_icmp .le 7, 3) := by decide +kernel
theorem dX7_word_11 : decode cX7_word 11 = .ok (.iconst 0, 1) := by decide +kernel
theorem dX7_word_12 : decode cX7_word 12 = .ok (.goto 9, 3) := by decide +kernel
theorem dX7_word_15 : decode cX7_word 15 = .ok (.aload_n 0, 1) := by decide +kernel
theorem dX7_word_16 : decode cX7_word 16 = .ok (.getfield 13, 3) := by decide +kernel
theorem dX7_word_19 : decode cX7_word 19 = .ok (.iload_n 1, 1) := by decide +kernel
theorem dX7_word_20 : decode cX7_word 20 = .ok (.iaload, 1) := by decide +kernel
theorem dX7_word_21 : decode cX7_word 21 = .ok (.ireturn, 1) := by decide +kernel
theorem dX7_spoil_0 : decode cX7_spoil 0 = .ok (.iload_n 1, 1) := by decide +kernel
theorem dX7_spoil_1 : decode cX7_spoil 1 = .ok (.ifCond .lt 10, 3) := by decide +kernel
theorem dX7_spoil_4 : decode cX7_spoil 4 = .ok (.iload_n 1, 1) := by decide +kernel
theorem dX7_spoil_5 : decode cX7_spoil 5 = .ok (.sipush 171, 3) := by decide +kernel
theorem dX7_spoil_8 : decode cX7_spoil 8 = .ok (.if_icmp .le 5, 3) := by decide +kernel
theorem dX7_spoil_11 : decode cX7_spoil 11 = .ok (.iconst 0, 1) := by decide +kernel
theorem dX7_spoil_12 : decode cX7_spoil 12 = .ok (.ireturn, 1) := by decide +kernel
theorem dX7_spoil_13 : decode cX7_spoil 13 = .ok (.aload_n 0, 1) := by decide +kernel
theorem dX7_spoil_14 : decode cX7_spoil 14 = .ok (.getfield 13, 3) := by decide +kernel
theorem dX7_spoil_17 : decode cX7_spoil 17 = .ok (.iload_n 1, 1) := by decide +kernel
theorem dX7_spoil_18 : decode cX7_spoil 18 = .ok (.iload_n 2, 1) := by decide +kernel
theorem dX7_spoil_19 : decode cX7_spoil 19 = .ok (.iastore, 1) := by decide +kernel
theorem dX7_spoil_20 : decode cX7_spoil 20 = .ok (.iconst 1, 1) := by decide +kernel
theorem dX7_spoil_21 : decode cX7_spoil 21 = .ok (.ireturn, 1) := by decide +kernel
theorem dX7_dot_0 : decode cX7_dot 0 = .ok (.lconst 0, 1) := by decide +kernel
theorem dX7_dot_1 : decode cX7_dot 1 = .ok (.lstore_n 3, 1) := by decide +kernel
theorem dX7_dot_2 : decode cX7_dot 2 = .ok (.iconst 0, 1) := by decide +kernel
theorem dX7_dot_3 : decode cX7_dot 3 = .ok (.istore 5, 2) := by decide +kernel
theorem dX7_dot_5 : decode cX7_dot 5 = .ok (.iload 5, 2) := by decide +kernel
theorem dX7_dot_7 : decode cX7_dot 7 = .ok (.bipush 12, 2) := by decide +kernel
theorem dX7_dot_9 : decode cX7_dot 9 = .ok (.if_icmp .ge 38, 3) := by decide +kernel
theorem dX7_dot_12 : decode cX7_dot 12 = .ok (.lload_n 3, 1) := by decide +kernel
theorem dX7_dot_13 : decode cX7_dot 13 = .ok (.aload_n 0, 1) := by decide +kernel
theorem dX7_dot_14 : decode cX7_dot 14 = .ok (.getfield 7, 3) := by decide +kernel
theorem dX7_dot_17 : decode cX7_dot 17 = .ok (.bipush 16, 2) := by decide +kernel
theorem dX7_dot_19 : decode cX7_dot 19 = .ok (.iload 5, 2) := by decide +kernel
theorem dX7_dot_21 : decode cX7_dot 21 = .ok (.imul, 1) := by decide +kernel
theorem dX7_dot_22 : decode cX7_dot 22 = .ok (.iload_n 1, 1) := by decide +kernel
theorem dX7_dot_23 : decode cX7_dot 23 = .ok (.iadd, 1) := by decide +kernel
theorem dX7_dot_24 : decode cX7_dot 24 = .ok (.iaload, 1) := by decide +kernel
theorem dX7_dot_25 : decode cX7_dot 25 = .ok (.aload_n 0, 1) := by decide +kernel
theorem dX7_dot_26 : decode cX7_dot 26 = .ok (.getfield 7, 3) := by decide +kernel
theorem dX7_dot_29 : decode cX7_dot 29 = .ok (.bipush 16, 2) := by decide +kernel
theorem dX7_dot_31 : decode cX7_dot 31 = .ok (.iload 5, 2) := by decide +kernel
theorem dX7_dot_33 : decode cX7_dot 33 = .ok (.imul, 1) := by decide +kernel
theorem dX7_dot_34 : decode cX7_dot 34 = .ok (.iload_n 2, 1) := by decide +kernel
theorem dX7_dot_35 : decode cX7_dot 35 = .ok (.iadd, 1) := by decide +kernel
theorem dX7_dot_36 : decode cX7_dot 36 = .ok (.iaload, 1) := by decide +kernel
theorem dX7_dot_37 : decode cX7_dot 37 = .ok (.imul, 1) := by decide +kernel
theorem dX7_dot_38 : decode cX7_dot 38 = .ok (.i2l, 1) := by decide +kernel
theorem dX7_dot_39 : decode cX7_dot 39 = .ok (.ladd, 1) := by decide +kernel
theorem dX7_dot_40 : decode cX7_dot 40 = .ok (.lstore_n 3, 1) := by decide +kernel
theorem dX7_dot_41 : decode cX7_dot 41 = .ok (.iinc 5 1, 3) := by decide +kernel
theorem dX7_dot_44 : decode cX7_dot 44 = .ok (.goto (-39), 3) := by decide +kernel
theorem dX7_dot_47 : decode cX7_dot 47 = .ok (.lload_n 3, 1) := by decide +kernel
theorem dX7_dot_48 : decode cX7_dot 48 = .ok (.lreturn, 1) := by decide +kernel
set_option maxRecDepth 20000 in
theorem ggX7_weigh_X7_dot : GoodIn wsX7_weigh wsX7_dot := goodIn_r _ [7, 8, 9, 10, 11, 12, 13, 14, 15, 16, 17] (by decide +kernel) (by decide +kernel)
set_option maxRecDepth 20000 in
theorem gX7_weigh_X7_dot : GoodIn wsX7_weigh (wsV RX7 73 RX7 yX7_dot wsX7_dot) := goodIn_app (goodIn_of _ (by decide +kernel)) ggX7_weigh_X7_dot
theorem dX7_weigh_0 : decode cX7_weigh 0 = .ok (.iconst 0, 1) := by decide +kernel
theorem dX7_weigh_1 : decode cX7_weigh 1 = .ok (.istore_n 1, 1) := by decide +kernel
theorem dX7_weigh_2 : decode cX7_weigh 2 = .ok (.iload_n 1, 1) := by decide +kernel
theorem dX7_weigh_3 : decode cX7_weigh 3 = .ok (.bipush 16, 2) := by decide +kernel
theorem dX7_weigh_5 : decode cX7_weigh 5 = .ok (.if_icmp .ge 78, 3) := by decide +kernel
theorem dX7_weigh_8 : decode cX7_weigh 8 = .ok (.iconst 0, 1) := by decide +kernel
theorem dX7_weigh_9 : decode cX7_weigh 9 = .ok (.istore_n 2, 1) := by decide +kernel
theorem dX7_weigh_10 : decode cX7_weigh 10 = .ok (.iload_n 2, 1) := by decide +kernel
theorem dX7_weigh_11 : decode cX7_weigh 11 = .ok (.bipush 16, 2) := by decide +kernel
theorem dX7_weigh_13 : decode cX7_weigh 13 = .ok (.if_icmp .ge 64, 3) := by decide +kernel
theorem dX7_weigh_16 : decode cX7_weigh 16 = .ok (.aload_n 0, 1) := by decide +kernel
theorem dX7_weigh_17 : decode cX7_weigh 17 = .ok (.iload_n 1, 1) := by decide +kernel
theorem dX7_weigh_18 : decode cX7_weigh 18 = .ok (.iload_n 2, 1) := by decide +kernel
theorem dX7_weigh_19 : decode cX7_weigh 19 = .ok (.invokevirtual 73, 3) := by decide +kernel
theorem dX7_weigh_22 : decode cX7_weigh 22 = .ok (.lstore_n 3, 1) := by decide +kernel
theorem dX7_weigh_23 : decode cX7_weigh 23 = .ok (.aload_n 0, 1) := by decide +kernel
theorem dX7_weigh_24 : decode cX7_weigh 24 = .ok (.getfield 20, 3) := by decide +kernel
theorem dX7_weigh_27 : decode cX7_weigh 27 = .ok (.bipush 16, 2) := by decide +kernel
theorem dX7_weigh_29 : decode cX7_weigh 29 = .ok (.iload_n 1, 1) := by decide +kernel
theorem dX7_weigh_30 : decode cX7_weigh 30 = .ok (.imul, 1) := by decide +kernel
theorem dX7_weigh_31 : decode cX7_weigh 31 = .ok (.iload_n 2, 1) := by decide +kernel
theorem dX7_weigh_32 : decode cX7_weigh 32 = .ok (.iadd, 1) := by decide +kernel
theorem dX7_weigh_33 : decode cX7_weigh 33 = .ok (.iload_n 1, 1) := by decide +kernel
theorem dX7_weigh_34 : decode cX7_weigh 34 = .ok (.iload_n 2, 1) := by decide +kernel
theorem dX7_weigh_35 : decode cX7_weigh 35 = .ok (.if_icmp .eq 9, 3) := by decide +kernel
theorem dX7_weigh_38 : decode cX7_weigh 38 = .ok (.lload_n 3, 1) := by decide +kernel
theorem dX7_weigh_39 : decode cX7_weigh 39 = .ok (.lconst 0, 1) := by decide +kernel
theorem dX7_weigh_40 : decode cX7_weigh 40 = .ok (.lcmp, 1) := by decide +kernel
theorem dX7_weigh_41 : decode cX7_weigh 41 = .ok (.ifCond .ne 7, 3) := by decide +kernel
theorem dX7_weigh_44 : decode cX7_weigh 44 = .ok (.iconst 0, 1) := by decide +kernel
theorem dX7_weigh_45 : decode cX7_weigh 45 = .ok (.goto 25, 3) := by decide +kernel
theorem dX7_weigh_48 : decode cX7_weigh 48 = .ok (.ldc2_w 77, 3) := by decide +kernel
theorem dX7_weigh_51 : decode cX7_weigh 51 = .ok (.lload_n 3, 1) := by decide +kernel
theorem dX7_weigh_52 : decode cX7_weigh 52 = .ok (.lmul, 1) := by decide +kernel
theorem dX7_weigh_53 : decode cX7_weigh 53 = .ok (.lload_n 3, 1) := by decide +kernel
theorem dX7_weigh_54 : decode cX7_weigh 54 = .ok (.lmul, 1) := by decide +kernel
theorem dX7_weigh_55 : decode cX7_weigh 55 = .ok (.aload_n 0, 1) := by decide +kernel
theorem dX7_weigh_56 : decode cX7_weigh 56 = .ok (.iload_n 1, 1) := by decide +kernel
theorem dX7_weigh_57 : decode cX7_weigh 57 = .ok (.iload_n 1, 1) := by decide +kernel
theorem dX7_weigh_58 : decode cX7_weigh 58 = .ok (.invokevirtual 73, 3) := by decide +kernel
theorem dX7_weigh_61 : decode cX7_weigh 61 = .ok (.aload_n 0, 1) := by decide +kernel
theorem dX7_weigh_62 : decode cX7_weigh 62 = .ok (.iload_n 2, 1) := by decide +kernel
theorem dX7_weigh_63 : decode cX7_weigh 63 = .ok (.iload_n 2, 1) := by decide +kernel
theorem dX7_weigh_64 : decode cX7_weigh 64 = .ok (.invokevirtual 73, 3) := by decide +kernel
theorem dX7_weigh_67 : decode cX7_weigh 67 = .ok (.lmul, 1) := by decide +kernel
theorem dX7_weigh_68 : decode cX7_weigh 68 = .ok (.ldiv, 1) := by decide +kernel
theorem dX7_weigh_69 : decode cX7_weigh 69 = .ok (.l2i, 1) := by decide +kernel
theorem dX7_weigh_70 : decode cX7_weigh 70 = .ok (.iastore, 1) := by decide +kernel
theorem dX7_weigh_71 : decode cX7_weigh 71 = .ok (.iinc 2 1, 3) := by decide +kernel
theorem dX7_weigh_74 : decode cX7_weigh 74 = .ok (.goto (-64), 3) := by decide +kernel
theorem dX7_weigh_77 : decode cX7_weigh 77 = .ok (.iinc 1 1, 3) := by decide +kernel
theorem dX7_weigh_80 : decode cX7_weigh 80 = .ok (.goto (-78), 3) := by decide +kernel
theorem dX7_weigh_83 : decode cX7_weigh 83 = .ok (.return_, 1) := by decide +kernel
theorem dX7_nearer_0 : decode cX7_nearer 0 = .ok (.aload_n 0, 1) := by decide +kernel
theorem dX7_nearer_1 : decode cX7_nearer 1 = .ok (.getfield 20, 3) := by decide +kernel
theorem dX7_nearer_4 : decode cX7_nearer 4 = .ok (.bipush 16, 2) := by decide +kernel
theorem dX7_nearer_6 : decode cX7_nearer 6 = .ok (.iload_n 1, 1) := by decide +kernel
theorem dX7_nearer_7 : decode cX7_nearer 7 = .ok (.imul, 1) := by decide +kernel
theorem dX7_nearer_8 : decode cX7_nearer 8 = .ok (.iload_n 3, 1) := by decide +kernel
theorem dX7_nearer_9 : decode cX7_nearer 9 = .ok (.iadd, 1) := by decide +kernel
theorem dX7_nearer_10 : decode cX7_nearer 10 = .ok (.iaload, 1) := by decide +kernel
theorem dX7_nearer_11 : decode cX7_nearer 11 = .ok (.istore 4, 2) := by decide +kernel
theorem dX7_nearer_13 : decode cX7_nearer 13 = .ok (.aload_n 0, 1) := by decide +kernel
theorem dX7_nearer_14 : decode cX7_nearer 14 = .ok (.getfield 20, 3) := by decide +kernel
theorem dX7_nearer_17 : decode cX7_nearer 17 = .ok (.bipush 16, 2) := by decide +kernel
theorem dX7_nearer_19 : decode cX7_nearer 19 = .ok (.iload_n 2, 1) := by decide +kernel
theorem dX7_nearer_20 : decode cX7_nearer 20 = .ok (.imul, 1) := by decide +kernel
theorem dX7_nearer_21 : decode cX7_nearer 21 = .ok (.iload_n 3, 1) := by decide +kernel
theorem dX7_nearer_22 : decode cX7_nearer 22 = .ok (.iadd, 1) := by decide +kernel
theorem dX7_nearer_23 : decode cX7_nearer 23 = .ok (.iaload, 1) := by decide +kernel
theorem dX7_nearer_24 : decode cX7_nearer 24 = .ok (.istore 5, 2) := by decide +kernel
theorem dX7_nearer_26 : decode cX7_nearer 26 = .ok (.iload 4, 2) := by decide +kernel
theorem dX7_nearer_28 : decode cX7_nearer 28 = .ok (.iload 5, 2) := by decide +kernel
theorem dX7_nearer_30 : decode cX7_nearer 30 = .ok (.if_icmp .gt 15, 3) := by decide +kernel
theorem dX7_nearer_33 : decode cX7_nearer 33 = .ok (.iload 4, 2) := by decide +kernel
theorem dX7_nearer_35 : decode cX7_nearer 35 = .ok (.iload 5, 2) := by decide +kernel
theorem dX7_nearer_37 : decode cX7_nearer 37 = .ok (.if_icmp .ne 12, 3) := by decide +kernel
theorem dX7_nearer_40 : decode cX7_nearer 40 = .ok (.iload_n 1, 1) := by decide +kernel
theorem dX7_nearer_41 : decode cX7_nearer 41 = .ok (.iload_n 2, 1) := by decide +kernel
theorem dX7_nearer_42 : decode cX7_nearer 42 = .ok (.if_icmp .ge 7, 3) := by decide +kernel
theorem dX7_nearer_45 : decode cX7_nearer 45 = .ok (.iconst 1, 1) := by decide +kernel
theorem dX7_nearer_46 : decode cX7_nearer 46 = .ok (.goto 4, 3) := by decide +kernel
theorem dX7_nearer_49 : decode cX7_nearer 49 = .ok (.iconst 0, 1) := by decide +kernel
theorem dX7_nearer_50 : decode cX7_nearer 50 = .ok (.ireturn, 1) := by decide +kernel
set_option maxRecDepth 20000 in
theorem ggX7_entry_X7_nearer : GoodIn wsX7_entry wsX7_nearer := goodIn_r _ [6, 1, 7, 8, 9, 10, 11, 12, 13, 14, 15] (by decide +kernel) (by decide +kernel)
set_option maxRecDepth 20000 in
theorem gX7_entry_X7_nearer : GoodIn wsX7_entry (wsV RX7 79 RX7 yX7_nearer wsX7_nearer) := goodIn_app (goodIn_of _ (by decide +kernel)) ggX7_entry_X7_nearer
theorem dX7_entry_0 : decode cX7_entry 0 = .ok (.iconst 0, 1) := by decide +kernel
theorem dX7_entry_1 : decode cX7_entry 1 = .ok (.istore_n 3, 1) := by decide +kernel
theorem dX7_entry_2 : decode cX7_entry 2 = .ok (.iload_n 3, 1) := by decide +kernel
theorem dX7_entry_3 : decode cX7_entry 3 = .ok (.bipush 16, 2) := by decide +kernel
theorem dX7_entry_5 : decode cX7_entry 5 = .ok (.if_icmp .ge 72, 3) := by decide +kernel
theorem dX7_entry_8 : decode cX7_entry 8 = .ok (.aload_n 0, 1) := by decide +kernel
theorem dX7_entry_9 : decode cX7_entry 9 = .ok (.getfield 20, 3) := by decide +kernel
theorem dX7_entry_12 : decode cX7_entry 12 = .ok (.bipush 16, 2) := by decide +kernel
theorem dX7_entry_14 : decode cX7_entry 14 = .ok (.iload_n 3, 1) := by decide +kernel
theorem dX7_entry_15 : decode cX7_entry 15 = .ok (.imul, 1) := by decide +kernel
theorem dX7_entry_16 : decode cX7_entry 16 = .ok (.iload_n 1, 1) := by decide +kernel
theorem dX7_entry_17 : decode cX7_entry 17 = .ok (.iadd, 1) := by decide +kernel
theorem dX7_entry_18 : decode cX7_entry 18 = .ok (.iaload, 1) := by decide +kernel
theorem dX7_entry_19 : decode cX7_entry 19 = .ok (.ifCond .le 52, 3) := by decide +kernel
theorem dX7_entry_22 : decode cX7_entry 22 = .ok (.iconst 0, 1) := by decide +kernel
theorem dX7_entry_23 : decode cX7_entry 23 = .ok (.istore 4, 2) := by decide +kernel
theorem dX7_entry_25 : decode cX7_entry 25 = .ok (.iconst 0, 1) := by decide +kernel
theorem dX7_entry_26 : decode cX7_entry 26 = .ok (.istore 5, 2) := by decide +kernel
theorem dX7_entry_28 : decode cX7_entry 28 = .ok (.iload 5, 2) := by decide +kernel
theorem dX7_entry_30 : decode cX7_entry 30 = .ok (.bipush 16, 2) := by decide +kernel
theorem dX7_entry_32 : decode cX7_entry 32 = .ok (.if_icmp .ge 31, 3) := by decide +kernel
theorem dX7_entry_35 : decode cX7_entry 35 = .ok (.aload_n 0, 1) := by decide +kernel
theorem dX7_entry_36 : decode cX7_entry 36 = .ok (.iload 5, 2) := by decide +kernel
theorem dX7_entry_38 : decode cX7_entry 38 = .ok (.iload_n 3, 1) := by decide +kernel
theorem dX7_entry_39 : decode cX7_entry 39 = .ok (.iload_n 1, 1) := by decide +kernel
theorem dX7_entry_40 : decode cX7_entry 40 = .ok (.invokevirtual 79, 3) := by decide +kernel
theorem dX7_entry_43 : decode cX7_entry 43 = .ok (.ifCond .eq 10, 3) := by decide +kernel
theorem dX7_entry_46 : decode cX7_entry 46 = .ok (.iload 4, 2) := by decide +kernel
theorem dX7_entry_48 : decode cX7_entry 48 = .ok (.iconst 1, 1) := by decide +kernel
theorem dX7_entry_49 : decode cX7_entry 49 = .ok (.iadd, 1) := by decide +kernel
theorem dX7_entry_50 : decode cX7_entry 50 = .ok (.goto 5, 3) := by decide +kernel
theorem dX7_entry_53 : decode cX7_entry 53 = .ok (.iload 4, 2) := by decide +kernel
theorem dX7_entry_55 : decode cX7_entry 55 = .ok (.istore 4, 2) := by decide +kernel
theorem dX7_entry_57 : decode cX7_entry 57 = .ok (.iinc 5 1, 3) := by decide +kernel
theorem dX7_entry_60 : decode cX7_entry 60 = .ok (.goto (-32), 3) := by decide +kernel
theorem dX7_entry_63 : decode cX7_entry 63 = .ok (.iload 4, 2) := by decide +kernel
theorem dX7_entry_65 : decode cX7_entry 65 = .ok (.iload_n 2, 1) := by decide +kernel
theorem dX7_entry_66 : decode cX7_entry 66 = .ok (.if_icmp .ne 5, 3) := by decide +kernel
theorem dX7_entry_69 : decode cX7_entry 69 = .ok (.iload_n 3, 1) := by decide +kernel
theorem dX7_entry_70 : decode cX7_entry 70 = .ok (.ireturn, 1) := by decide +kernel
theorem dX7_entry_71 : decode cX7_entry 71 = .ok (.iinc 3 1, 3) := by decide +kernel
theorem dX7_entry_74 : decode cX7_entry 74 = .ok (.goto (-72), 3) := by decide +kernel
theorem dX7_entry_77 : decode cX7_entry 77 = .ok (.iconst (-1), 1) := by decide +kernel
theorem dX7_entry_78 : decode cX7_entry 78 = .ok (.ireturn, 1) := by decide +kernel
set_option maxRecDepth 20000 in
theorem ggX7_scoreAll_X7_weigh : GoodIn wsX7_scoreAll wsX7_weigh := goodIn_r _ [8, 2, 9, 10, 11, 12, 7, 13, 3, 14, 15, 16, 17, 18, 19, 20, 21, 22] (by decide +kernel) (by decide +kernel)
set_option maxRecDepth 20000 in
theorem gX7_scoreAll_X7_weigh : GoodIn wsX7_scoreAll (wsV RX7 83 RX7 yX7_weigh wsX7_weigh) := goodIn_app (goodIn_of _ (by decide +kernel)) ggX7_scoreAll_X7_weigh
theorem dX7_scoreAll_0 : decode cX7_scoreAll 0 = .ok (.aload_n 0, 1) := by decide +kernel
theorem dX7_scoreAll_1 : decode cX7_scoreAll 1 = .ok (.invokevirtual 83, 3) := by decide +kernel
theorem dX7_scoreAll_4 : decode cX7_scoreAll 4 = .ok (.iconst 0, 1) := by decide +kernel
theorem dX7_scoreAll_5 : decode cX7_scoreAll 5 = .ok (.istore_n 2, 1) := by decide +kernel
theorem dX7_scoreAll_6 : decode cX7_scoreAll 6 = .ok (.iload_n 2, 1) := by decide +kernel
theorem dX7_scoreAll_7 : decode cX7_scoreAll 7 = .ok (.bipush 16, 2) := by decide +kernel
theorem dX7_scoreAll_9 : decode cX7_scoreAll 9 = .ok (.if_icmp .ge 68, 3) := by decide +kernel
theorem dX7_scoreAll_12 : decode cX7_scoreAll 12 = .ok (.aload_n 0, 1) := by decide +kernel
theorem dX7_scoreAll_13 : decode cX7_scoreAll 13 = .ok (.getfield 23, 3) := by decide +kernel
theorem dX7_scoreAll_16 : decode cX7_scoreAll 16 = .ok (.iload_n 2, 1) := by decide +kernel
theorem dX7_scoreAll_17 : decode cX7_scoreAll 17 = .ok (.lconst 0, 1) := by decide +kernel
theorem dX7_scoreAll_18 : decode cX7_scoreAll 18 = .ok (.lastore, 1) := by decide +kernel
theorem dX7_scoreAll_19 : decode cX7_scoreAll 19 = .ok (.iconst 0, 1) := by decide +kernel
theorem dX7_scoreAll_20 : decode cX7_scoreAll 20 = .ok (.istore_n 3, 1) := by decide +kernel
theorem dX7_scoreAll_21 : decode cX7_scoreAll 21 = .ok (.iload_n 3, 1) := by decide +kernel
theorem dX7_scoreAll_22 : decode cX7_scoreAll 22 = .ok (.bipush 16, 2) := by decide +kernel
theorem dX7_scoreAll_24 : decode cX7_scoreAll 24 = .ok (.if_icmp .ge 47, 3) := by decide +kernel
theorem dX7_scoreAll_27 : decode cX7_scoreAll 27 = .ok (.aload_n 0, 1) := by decide +kernel
theorem dX7_scoreAll_28 : decode cX7_scoreAll 28 = .ok (.getfield 23, 3) := by decide +kernel
theorem dX7_scoreAll_31 : decode cX7_scoreAll 31 = .ok (.iload_n 2, 1) := by decide +kernel
theorem dX7_scoreAll_32 : decode cX7_scoreAll 32 = .ok (.aload_n 0, 1) := by decide +kernel
theorem dX7_scoreAll_33 : decode cX7_scoreAll 33 = .ok (.getfield 23, 3) := by decide +kernel
theorem dX7_scoreAll_36 : decode cX7_scoreAll 36 = .ok (.iload_n 2, 1) := by decide +kernel
theorem dX7_scoreAll_37 : decode cX7_scoreAll 37 = .ok (.laload, 1) := by decide +kernel
theorem dX7_scoreAll_38 : decode cX7_scoreAll 38 = .ok (.aload_n 0, 1) := by decide +kernel
theorem dX7_scoreAll_39 : decode cX7_scoreAll 39 = .ok (.getfield 20, 3) := by decide +kernel
theorem dX7_scoreAll_42 : decode cX7_scoreAll 42 = .ok (.bipush 16, 2) := by decide +kernel
theorem dX7_scoreAll_44 : decode cX7_scoreAll 44 = .ok (.iload_n 2, 1) := by decide +kernel
theorem dX7_scoreAll_45 : decode cX7_scoreAll 45 = .ok (.imul, 1) := by decide +kernel
theorem dX7_scoreAll_46 : decode cX7_scoreAll 46 = .ok (.iload_n 3, 1) := by decide +kernel
theorem dX7_scoreAll_47 : decode cX7_scoreAll 47 = .ok (.iadd, 1) := by decide +kernel
theorem dX7_scoreAll_48 : decode cX7_scoreAll 48 = .ok (.iaload, 1) := by decide +kernel
theorem dX7_scoreAll_49 : decode cX7_scoreAll 49 = .ok (.i2l, 1) := by decide +kernel
theorem dX7_scoreAll_50 : decode cX7_scoreAll 50 = .ok (.aload_n 0, 1) := by decide +kernel
theorem dX7_scoreAll_51 : decode cX7_scoreAll 51 = .ok (.getfield 7, 3) := by decide +kernel
theorem dX7_scoreAll_54 : decode cX7_scoreAll 54 = .ok (.bipush 16, 2) := by decide +kernel
theorem dX7_scoreAll_56 : decode cX7_scoreAll 56 = .ok (.iload_n 1, 1) := by decide +kernel
theorem dX7_scoreAll_57 : decode cX7_scoreAll 57 = .ok (.imul, 1) := by decide +kernel
theorem dX7_scoreAll_58 : decode cX7_scoreAll 58 = .ok (.iload_n 3, 1) := by decide +kernel
theorem dX7_scoreAll_59 : decode cX7_scoreAll 59 = .ok (.iadd, 1) := by decide +kernel
theorem dX7_scoreAll_60 : decode cX7_scoreAll 60 = .ok (.iaload, 1) := by decide +kernel
theorem dX7_scoreAll_61 : decode cX7_scoreAll 61 = .ok (.i2l, 1) := by decide +kernel
theorem dX7_scoreAll_62 : decode cX7_scoreAll 62 = .ok (.lmul, 1) := by decide +kernel
theorem dX7_scoreAll_63 : decode cX7_scoreAll 63 = .ok (.ladd, 1) := by decide +kernel
theorem dX7_scoreAll_64 : decode cX7_scoreAll 64 = .ok (.lastore, 1) := by decide +kernel
theorem dX7_scoreAll_65 : decode cX7_scoreAll 65 = .ok (.iinc 3 1, 3) := by decide +kernel
theorem dX7_scoreAll_68 : decode cX7_scoreAll 68 = .ok (.goto (-47), 3) := by decide +kernel
theorem dX7_scoreAll_71 : decode cX7_scoreAll 71 = .ok (.iinc 2 1, 3) := by decide +kernel
theorem dX7_scoreAll_74 : decode cX7_scoreAll 74 = .ok (.goto (-68), 3) := by decide +kernel
theorem dX7_scoreAll_77 : decode cX7_scoreAll 77 = .ok (.return_, 1) := by decide +kernel
set_option maxRecDepth 20000 in
theorem ggX7_rating_X7_noUser : GoodIn wsX7_rating wsX7_noUser := goodIn_r _ [6] (by decide +kernel) (by decide +kernel)
set_option maxRecDepth 20000 in
theorem gX7_rating_X7_noUser : GoodIn wsX7_rating (va_wsS RX7 45 yX7_noUser wsX7_noUser) := goodIn_app (goodIn_of _ (by decide +kernel)) ggX7_rating_X7_noUser
set_option maxRecDepth 20000 in
theorem ggX7_rating_X7_noItem : GoodIn wsX7_rating wsX7_noItem := goodIn_r _ [9] (by decide +kernel) (by decide +kernel)
set_option maxRecDepth 20000 in
theorem gX7_rating_X7_noItem : GoodIn wsX7_rating (va_wsS RX7 49 yX7_noItem wsX7_noItem) := goodIn_app (goodIn_of _ (by decide +kernel)) ggX7_rating_X7_noItem
theorem dX7_rating_0 : decode cX7_rating 0 = .ok (.aload_n 0, 1) := by decide +kernel
theorem dX7_rating_1 : decode cX7_rating 1 = .ok (.getfield 41, 3) := by decide +kernel
theorem dX7_rating_4 : decode cX7_rating 4 = .ok (.ifCond .eq 8, 3) := by decide +kernel
theorem dX7_rating_7 : decode cX7_rating 7 = .ok (.bipush (-3), 2) := by decide +kernel
theorem dX7_rating_9 : decode cX7_rating 9 = .ok (.goto 33, 3) := by decide +kernel
theorem dX7_rating_12 : decode cX7_rating 12 = .ok (.iload_n 1, 1) := by decide +kernel
theorem dX7_rating_13 : decode cX7_rating 13 = .ok (.invokestatic 45, 3) := by decide +kernel
theorem dX7_rating_16 : decode cX7_rating 16 = .ok (.ifCond .ne 10, 3) := by decide +kernel
theorem dX7_rating_19 : decode cX7_rating 19 = .ok (.iload_n 2, 1) := by decide +kernel
theorem dX7_rating_20 : decode cX7_rating 20 = .ok (.invokestatic 49, 3) := by decide +kernel
theorem dX7_rating_23 : decode cX7_rating 23 = .ok (.ifCond .eq 8, 3) := by decide +kernel
theorem dX7_rating_26 : decode cX7_rating 26 = .ok (.bipush (-2), 2) := by decide +kernel
theorem dX7_rating_28 : decode cX7_rating 28 = .ok (.goto 14, 3) := by decide +kernel
theorem dX7_rating_31 : decode cX7_rating 31 = .ok (.aload_n 0, 1) := by decide +kernel
theorem dX7_rating_32 : decode cX7_rating 32 = .ok (.getfield 7, 3) := by decide +kernel
theorem dX7_rating_35 : decode cX7_rating 35 = .ok (.bipush 16, 2) := by decide +kernel
theorem dX7_rating_37 : decode cX7_rating 37 = .ok (.iload_n 1, 1) := by decide +kernel
theorem dX7_rating_38 : decode cX7_rating 38 = .ok (.imul, 1) := by decide +kernel
theorem dX7_rating_39 : decode cX7_rating 39 = .ok (.iload_n 2, 1) := by decide +kernel
theorem dX7_rating_40 : decode cX7_rating 40 = .ok (.iadd, 1) := by decide +kernel
theorem dX7_rating_41 : decode cX7_rating 41 = .ok (.iaload, 1) := by decide +kernel
theorem dX7_rating_42 : decode cX7_rating 42 = .ok (.ireturn, 1) := by decide +kernel
set_option maxRecDepth 20000 in
theorem ggX7_weight_X7_noItem : GoodIn wsX7_weight wsX7_noItem := goodIn_r _ [6] (by decide +kernel) (by decide +kernel)
set_option maxRecDepth 20000 in
theorem gX7_weight_X7_noItem : GoodIn wsX7_weight (va_wsS RX7 49 yX7_noItem wsX7_noItem) := goodIn_app (goodIn_of _ (by decide +kernel)) ggX7_weight_X7_noItem
set_option maxRecDepth 20000 in
theorem ggX7_weight_X7_weigh : GoodIn wsX7_weight wsX7_weigh := goodIn_r _ [10, 2, 11, 12, 13, 14, 5, 15, 16, 17, 18, 19, 20, 21, 22, 23, 24, 25] (by decide +kernel) (by decide +kernel)
set_option maxRecDepth 20000 in
theorem gX7_weight_X7_weigh : GoodIn wsX7_weight (wsV RX7 83 RX7 yX7_weigh wsX7_weigh) := goodIn_app (goodIn_of _ (by decide +kernel)) ggX7_weight_X7_weigh
theorem dX7_weight_0 : decode cX7_weight 0 = .ok (.aload_n 0, 1) := by decide +kernel
theorem dX7_weight_1 : decode cX7_weight 1 = .ok (.getfield 41, 3) := by decide +kernel
theorem dX7_weight_4 : decode cX7_weight 4 = .ok (.ifCond .ne 17, 3) := by decide +kernel
theorem dX7_weight_7 : decode cX7_weight 7 = .ok (.iload_n 1, 1) := by decide +kernel
theorem dX7_weight_8 : decode cX7_weight 8 = .ok (.invokestatic 49, 3) := by decide +kernel
theorem dX7_weight_11 : decode cX7_weight 11 = .ok (.ifCond .ne 10, 3) := by decide +kernel
theorem dX7_weight_14 : decode cX7_weight 14 = .ok (.iload_n 2, 1) := by decide +kernel
theorem dX7_weight_15 : decode cX7_weight 15 = .ok (.invokestatic 49, 3) := by decide +kernel
theorem dX7_weight_18 : decode cX7_weight 18 = .ok (.ifCond .eq 18, 3) := by decide +kernel
theorem dX7_weight_21 : decode cX7_weight 21 = .ok (.aload_n 0, 1) := by decide +kernel
theorem dX7_weight_22 : decode cX7_weight 22 = .ok (.getfield 41, 3) := by decide +kernel
theorem dX7_weight_25 : decode cX7_weight 25 = .ok (.ifCond .eq 8, 3) := by decide +kernel
theorem dX7_weight_28 : decode cX7_weight 28 = .ok (.bipush (-3), 2) := by decide +kernel
theorem dX7_weight_30 : decode cX7_weight 30 = .ok (.goto 5, 3) := by decide +kernel
theorem dX7_weight_33 : decode cX7_weight 33 = .ok (.bipush (-2), 2) := by decide +kernel
theorem dX7_weight_35 : decode cX7_weight 35 = .ok (.ireturn, 1) := by decide +kernel
theorem dX7_weight_36 : decode cX7_weight 36 = .ok (.aload_n 0, 1) := by decide +kernel
theorem dX7_weight_37 : decode cX7_weight 37 = .ok (.invokevirtual 83, 3) := by decide +kernel
theorem dX7_weight_40 : decode cX7_weight 40 = .ok (.aload_n 0, 1) := by decide +kernel
theorem dX7_weight_41 : decode cX7_weight 41 = .ok (.getfield 20, 3) := by decide +kernel
theorem dX7_weight_44 : decode cX7_weight 44 = .ok (.bipush 16, 2) := by decide +kernel
theorem dX7_weight_46 : decode cX7_weight 46 = .ok (.iload_n 1, 1) := by decide +kernel
theorem dX7_weight_47 : decode cX7_weight 47 = .ok (.imul, 1) := by decide +kernel
theorem dX7_weight_48 : decode cX7_weight 48 = .ok (.iload_n 2, 1) := by decide +kernel
theorem dX7_weight_49 : decode cX7_weight 49 = .ok (.iadd, 1) := by decide +kernel
theorem dX7_weight_50 : decode cX7_weight 50 = .ok (.iaload, 1) := by decide +kernel
theorem dX7_weight_51 : decode cX7_weight 51 = .ok (.ireturn, 1) := by decide +kernel
set_option maxRecDepth 20000 in
theorem ggX7_neighbour_X7_noItem : GoodIn wsX7_neighbour wsX7_noItem := goodIn_r _ [5] (by decide +kernel) (by decide +kernel)
set_option maxRecDepth 20000 in
theorem gX7_neighbour_X7_noItem : GoodIn wsX7_neighbour (va_wsS RX7 49 yX7_noItem wsX7_noItem) := goodIn_app (goodIn_of _ (by decide +kernel)) ggX7_neighbour_X7_noItem
set_option maxRecDepth 20000 in
theorem ggX7_neighbour_X7_weigh : GoodIn wsX7_neighbour wsX7_weigh := goodIn_r _ [9, 10, 11, 12, 13, 14, 4, 15, 16, 25, 26, 27, 28, 29, 30, 31, 32, 33] (by decide +kernel) (by decide +kernel)
set_option maxRecDepth 20000 in
theorem gX7_neighbour_X7_weigh : GoodIn wsX7_neighbour (wsV RX7 83 RX7 yX7_weigh wsX7_weigh) := goodIn_app (goodIn_of _ (by decide +kernel)) ggX7_neighbour_X7_weigh
set_option maxRecDepth 20000 in
theorem ggX7_neighbour_X7_entry : GoodIn wsX7_neighbour wsX7_entry := goodIn_r _ [20, 10, 21, 22, 23, 4, 24, 25, 26, 27, 28, 29, 30, 31, 32, 33] (by decide +kernel) (by decide +kernel)
set_option maxRecDepth 20000 in
theorem gX7_neighbour_X7_entry : GoodIn wsX7_neighbour (wsV RX7 86 RX7 yX7_entry wsX7_entry) := goodIn_app (goodIn_of _ (by decide +kernel)) ggX7_neighbour_X7_entry
theorem dX7_neighbour_0 : decode cX7_neighbour 0 = .ok (.aload_n 0, 1) := by decide +kernel
theorem dX7_neighbour_1 : decode cX7_neighbour 1 = .ok (.getfield 41, 3) := by decide +kernel
theorem dX7_neighbour_4 : decode cX7_neighbour 4 = .ok (.ifCond .ne 10, 3) := by decide +kernel
theorem dX7_neighbour_7 : decode cX7_neighbour 7 = .ok (.iload_n 1, 1) := by decide +kernel
theorem dX7_neighbour_8 : decode cX7_neighbour 8 = .ok (.invokestatic 49, 3) := by decide +kernel
theorem dX7_neighbour_11 : decode cX7_neighbour 11 = .ok (.ifCond .eq 18, 3) := by decide +kernel
theorem dX7_neighbour_14 : decode cX7_neighbour 14 = .ok (.aload_n 0, 1) := by decide +kernel
theorem dX7_neighbour_15 : decode cX7_neighbour 15 = .ok (.getfield 41, 3) := by decide +kernel
theorem dX7_neighbour_18 : decode cX7_neighbour 18 = .ok (.ifCond .eq 8, 3) := by decide +kernel
theorem dX7_neighbour_21 : decode cX7_neighbour 21 = .ok (.bipush (-3), 2) := by decide +kernel
theorem dX7_neighbour_23 : decode cX7_neighbour 23 = .ok (.goto 5, 3) := by decide +kernel
theorem dX7_neighbour_26 : decode cX7_neighbour 26 = .ok (.bipush (-2), 2) := by decide +kernel
theorem dX7_neighbour_28 : decode cX7_neighbour 28 = .ok (.ireturn, 1) := by decide +kernel
theorem dX7_neighbour_29 : decode cX7_neighbour 29 = .ok (.aload_n 0, 1) := by decide +kernel
theorem dX7_neighbour_30 : decode cX7_neighbour 30 = .ok (.invokevirtual 83, 3) := by decide +kernel
theorem dX7_neighbour_33 : decode cX7_neighbour 33 = .ok (.aload_n 0, 1) := by decide +kernel
theorem dX7_neighbour_34 : decode cX7_neighbour 34 = .ok (.iload_n 1, 1) := by decide +kernel
theorem dX7_neighbour_35 : decode cX7_neighbour 35 = .ok (.iload_n 2, 1) := by decide +kernel
theorem dX7_neighbour_36 : decode cX7_neighbour 36 = .ok (.invokevirtual 86, 3) := by decide +kernel
theorem dX7_neighbour_39 : decode cX7_neighbour 39 = .ok (.ireturn, 1) := by decide +kernel
set_option maxRecDepth 20000 in
theorem ggX7_score_X7_noUser : GoodIn wsX7_score wsX7_noUser := goodIn_r _ [8] (by decide +kernel) (by decide +kernel)
set_option maxRecDepth 20000 in
theorem gX7_score_X7_noUser : GoodIn wsX7_score (va_wsS RX7 45 yX7_noUser wsX7_noUser) := goodIn_app (goodIn_of _ (by decide +kernel)) ggX7_score_X7_noUser
set_option maxRecDepth 20000 in
theorem ggX7_score_X7_noItem : GoodIn wsX7_score wsX7_noItem := goodIn_r _ [11] (by decide +kernel) (by decide +kernel)
set_option maxRecDepth 20000 in
theorem gX7_score_X7_noItem : GoodIn wsX7_score (va_wsS RX7 49 yX7_noItem wsX7_noItem) := goodIn_app (goodIn_of _ (by decide +kernel)) ggX7_score_X7_noItem
set_option maxRecDepth 20000 in
theorem ggX7_score_X7_scoreAll : GoodIn wsX7_score wsX7_scoreAll := goodIn_r _ [15, 4, 16, 17, 18, 19, 20, 7, 21, 22, 23, 24, 25, 26, 27, 28, 29, 30, 31, 32, 33, 34, 35] (by decide +kernel) (by decide +kernel)
set_option maxRecDepth 20000 in
theorem gX7_score_X7_scoreAll : GoodIn wsX7_score (wsV RX7 93 RX7 yX7_scoreAll wsX7_scoreAll) := goodIn_app (goodIn_of _ (by decide +kernel)) ggX7_score_X7_scoreAll
theorem dX7_score_0 : decode cX7_score 0 = .ok (.aload_n 0, 1) := by decide +kernel
theorem dX7_score_1 : decode cX7_score 1 = .ok (.getfield 41, 3) := by decide +kernel
theorem dX7_score_4 : decode cX7_score 4 = .ok (.ifCond .ne 17, 3) := by decide +kernel
theorem dX7_score_7 : decode cX7_score 7 = .ok (.iload_n 1, 1) := by decide +kernel
theorem dX7_score_8 : decode cX7_score 8 = .ok (.invokestatic 45, 3) := by decide +kernel
theorem dX7_score_11 : decode cX7_score 11 = .ok (.ifCond .ne 10, 3) := by decide +kernel
theorem dX7_score_14 : decode cX7_score 14 = .ok (.iload_n 2, 1) := by decide +kernel
theorem dX7_score_15 : decode cX7_score 15 = .ok (.invokestatic 49, 3) := by decide +kernel
theorem dX7_score_18 : decode cX7_score 18 = .ok (.ifCond .eq 20, 3) := by decide +kernel
theorem dX7_score_21 : decode cX7_score 21 = .ok (.aload_n 0, 1) := by decide +kernel
theorem dX7_score_22 : decode cX7_score 22 = .ok (.getfield 41, 3) := by decide +kernel
theorem dX7_score_25 : decode cX7_score 25 = .ok (.ifCond .eq 9, 3) := by decide +kernel
theorem dX7_score_28 : decode cX7_score 28 = .ok (.ldc2_w 89, 3) := by decide +kernel
theorem dX7_score_31 : decode cX7_score 31 = .ok (.goto 6, 3) := by decide +kernel
theorem dX7_score_34 : decode cX7_score 34 = .ok (.ldc2_w 91, 3) := by decide +kernel
theorem dX7_score_37 : decode cX7_score 37 = .ok (.lreturn, 1) := by decide +kernel
theorem dX7_score_38 : decode cX7_score 38 = .ok (.aload_n 0, 1) := by decide +kernel
theorem dX7_score_39 : decode cX7_score 39 = .ok (.iload_n 1, 1) := by decide +kernel
theorem dX7_score_40 : decode cX7_score 40 = .ok (.invokevirtual 93, 3) := by decide +kernel
theorem dX7_score_43 : decode cX7_score 43 = .ok (.aload_n 0, 1) := by decide +kernel
theorem dX7_score_44 : decode cX7_score 44 = .ok (.getfield 23, 3) := by decide +kernel
theorem dX7_score_47 : decode cX7_score 47 = .ok (.iload_n 2, 1) := by decide +kernel
theorem dX7_score_48 : decode cX7_score 48 = .ok (.laload, 1) := by decide +kernel
theorem dX7_score_49 : decode cX7_score 49 = .ok (.lreturn, 1) := by decide +kernel
theorem dX7_offered_0 : decode cX7_offered 0 = .ok (.aload_n 0, 1) := by decide +kernel
theorem dX7_offered_1 : decode cX7_offered 1 = .ok (.getfield 7, 3) := by decide +kernel
theorem dX7_offered_4 : decode cX7_offered 4 = .ok (.bipush 16, 2) := by decide +kernel
theorem dX7_offered_6 : decode cX7_offered 6 = .ok (.iload_n 1, 1) := by decide +kernel
theorem dX7_offered_7 : decode cX7_offered 7 = .ok (.imul, 1) := by decide +kernel
theorem dX7_offered_8 : decode cX7_offered 8 = .ok (.iload_n 2, 1) := by decide +kernel
theorem dX7_offered_9 : decode cX7_offered 9 = .ok (.iadd, 1) := by decide +kernel
theorem dX7_offered_10 : decode cX7_offered 10 = .ok (.iaload, 1) := by decide +kernel
theorem dX7_offered_11 : decode cX7_offered 11 = .ok (.ifCond .ne 18, 3) := by decide +kernel
theorem dX7_offered_14 : decode cX7_offered 14 = .ok (.aload_n 0, 1) := by decide +kernel
theorem dX7_offered_15 : decode cX7_offered 15 = .ok (.getfield 23, 3) := by decide +kernel
theorem dX7_offered_18 : decode cX7_offered 18 = .ok (.iload_n 2, 1) := by decide +kernel
theorem dX7_offered_19 : decode cX7_offered 19 = .ok (.laload, 1) := by decide +kernel
theorem dX7_offered_20 : decode cX7_offered 20 = .ok (.lconst 0, 1) := by decide +kernel
theorem dX7_offered_21 : decode cX7_offered 21 = .ok (.lcmp, 1) := by decide +kernel
theorem dX7_offered_22 : decode cX7_offered 22 = .ok (.ifCond .le 7, 3) := by decide +kernel
theorem dX7_offered_25 : decode cX7_offered 25 = .ok (.iconst 1, 1) := by decide +kernel
theorem dX7_offered_26 : decode cX7_offered 26 = .ok (.goto 4, 3) := by decide +kernel
theorem dX7_offered_29 : decode cX7_offered 29 = .ok (.iconst 0, 1) := by decide +kernel
theorem dX7_offered_30 : decode cX7_offered 30 = .ok (.ireturn, 1) := by decide +kernel
set_option maxRecDepth 20000 in
theorem ggX7_best_X7_noUser : GoodIn wsX7_best wsX7_noUser := goodIn_r _ [6] (by decide +kernel) (by decide +kernel)
set_option maxRecDepth 20000 in
theorem gX7_best_X7_noUser : GoodIn wsX7_best (va_wsS RX7 45 yX7_noUser wsX7_noUser) := goodIn_app (goodIn_of _ (by decide +kernel)) ggX7_best_X7_noUser
set_option maxRecDepth 20000 in
theorem ggX7_best_X7_scoreAll : GoodIn wsX7_best wsX7_scoreAll := goodIn_r _ [10, 2, 11, 12, 13, 14, 15, 5, 16, 17, 18, 19, 20, 21, 26, 27, 28, 29, 30, 31, 32, 33, 34] (by decide +kernel) (by decide +kernel)
set_option maxRecDepth 20000 in
theorem gX7_best_X7_scoreAll : GoodIn wsX7_best (wsV RX7 93 RX7 yX7_scoreAll wsX7_scoreAll) := goodIn_app (goodIn_of _ (by decide +kernel)) ggX7_best_X7_scoreAll
set_option maxRecDepth 20000 in
theorem ggX7_best_X7_offered : GoodIn wsX7_best wsX7_offered := goodIn_r _ [25, 12, 2, 26, 27, 28, 29, 30, 31, 32, 33, 34] (by decide +kernel) (by decide +kernel)
set_option maxRecDepth 20000 in
theorem gX7_best_X7_offered : GoodIn wsX7_best (wsV RX7 97 RX7 yX7_offered wsX7_offered) := goodIn_app (goodIn_of _ (by decide +kernel)) ggX7_best_X7_offered
theorem dX7_best_0 : decode cX7_best 0 = .ok (.aload_n 0, 1) := by decide +kernel
theorem dX7_best_1 : decode cX7_best 1 = .ok (.getfield 41, 3) := by decide +kernel
theorem dX7_best_4 : decode cX7_best 4 = .ok (.ifCond .ne 10, 3) := by decide +kernel
theorem dX7_best_7 : decode cX7_best 7 = .ok (.iload_n 1, 1) := by decide +kernel
theorem dX7_best_8 : decode cX7_best 8 = .ok (.invokestatic 45, 3) := by decide +kernel
theorem dX7_best_11 : decode cX7_best 11 = .ok (.ifCond .eq 18, 3) := by decide +kernel
theorem dX7_best_14 : decode cX7_best 14 = .ok (.aload_n 0, 1) := by decide +kernel
theorem dX7_best_15 : decode cX7_best 15 = .ok (.getfield 41, 3) := by decide +kernel
theorem dX7_best_18 : decode cX7_best 18 = .ok (.ifCond .eq 8, 3) := by decide +kernel
theorem dX7_best_21 : decode cX7_best 21 = .ok (.bipush (-3), 2) := by decide +kernel
theorem dX7_best_23 : decode cX7_best 23 = .ok (.goto 5, 3) := by decide +kernel
theorem dX7_best_26 : decode cX7_best 26 = .ok (.bipush (-2), 2) := by decide +kernel
theorem dX7_best_28 : decode cX7_best 28 = .ok (.ireturn, 1) := by decide +kernel
theorem dX7_best_29 : decode cX7_best 29 = .ok (.aload_n 0, 1) := by decide +kernel
theorem dX7_best_30 : decode cX7_best 30 = .ok (.iload_n 1, 1) := by decide +kernel
theorem dX7_best_31 : decode cX7_best 31 = .ok (.invokevirtual 93, 3) := by decide +kernel
theorem dX7_best_34 : decode cX7_best 34 = .ok (.iconst 0, 1) := by decide +kernel
theorem dX7_best_35 : decode cX7_best 35 = .ok (.istore_n 3, 1) := by decide +kernel
theorem dX7_best_36 : decode cX7_best 36 = .ok (.iload_n 3, 1) := by decide +kernel
theorem dX7_best_37 : decode cX7_best 37 = .ok (.bipush 16, 2) := by decide +kernel
theorem dX7_best_39 : decode cX7_best 39 = .ok (.if_icmp .ge 118, 3) := by decide +kernel
theorem dX7_best_42 : decode cX7_best 42 = .ok (.aload_n 0, 1) := by decide +kernel
theorem dX7_best_43 : decode cX7_best 43 = .ok (.iload_n 1, 1) := by decide +kernel
theorem dX7_best_44 : decode cX7_best 44 = .ok (.iload_n 3, 1) := by decide +kernel
theorem dX7_best_45 : decode cX7_best 45 = .ok (.invokevirtual 97, 3) := by decide +kernel
theorem dX7_best_48 : decode cX7_best 48 = .ok (.ifCond .eq 103, 3) := by decide +kernel
theorem dX7_best_51 : decode cX7_best 51 = .ok (.iconst 0, 1) := by decide +kernel
theorem dX7_best_52 : decode cX7_best 52 = .ok (.istore 4, 2) := by decide +kernel
theorem dX7_best_54 : decode cX7_best 54 = .ok (.iconst 0, 1) := by decide +kernel
theorem dX7_best_55 : decode cX7_best 55 = .ok (.istore 5, 2) := by decide +kernel
theorem dX7_best_57 : decode cX7_best 57 = .ok (.iload 5, 2) := by decide +kernel
theorem dX7_best_59 : decode cX7_best 59 = .ok (.bipush 16, 2) := by decide +kernel
theorem dX7_best_61 : decode cX7_best 61 = .ok (.if_icmp .ge 82, 3) := by decide +kernel
theorem dX7_best_64 : decode cX7_best 64 = .ok (.aload_n 0, 1) := by decide +kernel
theorem dX7_best_65 : decode cX7_best 65 = .ok (.getfield 23, 3) := by decide +kernel
theorem dX7_best_68 : decode cX7_best 68 = .ok (.iload 5, 2) := by decide +kernel
theorem dX7_best_70 : decode cX7_best 70 = .ok (.laload, 1) := by decide +kernel
theorem dX7_best_71 : decode cX7_best 71 = .ok (.aload_n 0, 1) := by decide +kernel
theorem dX7_best_72 : decode cX7_best 72 = .ok (.getfield 23, 3) := by decide +kernel
theorem dX7_best_75 : decode cX7_best 75 = .ok (.iload_n 3, 1) := by decide +kernel
theorem dX7_best_76 : decode cX7_best 76 = .ok (.laload, 1) := by decide +kernel
theorem dX7_best_77 : decode cX7_best 77 = .ok (.lcmp, 1) := by decide +kernel
theorem dX7_best_78 : decode cX7_best 78 = .ok (.ifCond .gt 26, 3) := by decide +kernel
theorem dX7_best_81 : decode cX7_best 81 = .ok (.aload_n 0, 1) := by decide +kernel
theorem dX7_best_82 : decode cX7_best 82 = .ok (.getfield 23, 3) := by decide +kernel
theorem dX7_best_85 : decode cX7_best 85 = .ok (.iload 5, 2) := by decide +kernel
theorem dX7_best_87 : decode cX7_best 87 = .ok (.laload, 1) := by decide +kernel
theorem dX7_best_88 : decode cX7_best 88 = .ok (.aload_n 0, 1) := by decide +kernel
theorem dX7_best_89 : decode cX7_best 89 = .ok (.getfield 23, 3) := by decide +kernel
theorem dX7_best_92 : decode cX7_best 92 = .ok (.iload_n 3, 1) := by decide +kernel
theorem dX7_best_93 : decode cX7_best 93 = .ok (.laload, 1) := by decide +kernel
theorem dX7_best_94 : decode cX7_best 94 = .ok (.lcmp, 1) := by decide +kernel
theorem dX7_best_95 : decode cX7_best 95 = .ok (.ifCond .ne 13, 3) := by decide +kernel
theorem dX7_best_98 : decode cX7_best 98 = .ok (.iload 5, 2) := by decide +kernel
theorem dX7_best_100 : decode cX7_best 100 = .ok (.iload_n 3, 1) := by decide +kernel
theorem dX7_best_101 : decode cX7_best 101 = .ok (.if_icmp .ge 7, 3) := by decide +kernel
theorem dX7_best_104 : decode cX7_best 104 = .ok (.iconst 1, 1) := by decide +kernel
theorem dX7_best_105 : decode cX7_best 105 = .ok (.goto 4, 3) := by decide +kernel
theorem dX7_best_108 : decode cX7_best 108 = .ok (.iconst 0, 1) := by decide +kernel
theorem dX7_best_109 : decode cX7_best 109 = .ok (.istore 6, 2) := by decide +kernel
theorem dX7_best_111 : decode cX7_best 111 = .ok (.aload_n 0, 1) := by decide +kernel
theorem dX7_best_112 : decode cX7_best 112 = .ok (.iload_n 1, 1) := by decide +kernel
theorem dX7_best_113 : decode cX7_best 113 = .ok (.iload 5, 2) := by decide +kernel
theorem dX7_best_115 : decode cX7_best 115 = .ok (.invokevirtual 97, 3) := by decide +kernel
theorem dX7_best_118 : decode cX7_best 118 = .ok (.ifCond .eq 15, 3) := by decide +kernel
theorem dX7_best_121 : decode cX7_best 121 = .ok (.iload 6, 2) := by decide +kernel
theorem dX7_best_123 : decode cX7_best 123 = .ok (.ifCond .eq 10, 3) := by decide +kernel
theorem dX7_best_126 : decode cX7_best 126 = .ok (.iload 4, 2) := by decide +kernel
theorem dX7_best_128 : decode cX7_best 128 = .ok (.iconst 1, 1) := by decide +kernel
theorem dX7_best_129 : decode cX7_best 129 = .ok (.iadd, 1) := by decide +kernel
theorem dX7_best_130 : decode cX7_best 130 = .ok (.goto 5, 3) := by decide +kernel
theorem dX7_best_133 : decode cX7_best 133 = .ok (.iload 4, 2) := by decide +kernel
theorem dX7_best_135 : decode cX7_best 135 = .ok (.istore 4, 2) := by decide +kernel
theorem dX7_best_137 : decode cX7_best 137 = .ok (.iinc 5 1, 3) := by decide +kernel
theorem dX7_best_140 : decode cX7_best 140 = .ok (.goto (-83), 3) := by decide +kernel
theorem dX7_best_143 : decode cX7_best 143 = .ok (.iload 4, 2) := by decide +kernel
theorem dX7_best_145 : decode cX7_best 145 = .ok (.iload_n 2, 1) := by decide +kernel
theorem dX7_best_146 : decode cX7_best 146 = .ok (.if_icmp .ne 5, 3) := by decide +kernel
theorem dX7_best_149 : decode cX7_best 149 = .ok (.iload_n 3, 1) := by decide +kernel
theorem dX7_best_150 : decode cX7_best 150 = .ok (.ireturn, 1) := by decide +kernel
theorem dX7_best_151 : decode cX7_best 151 = .ok (.iinc 3 1, 3) := by decide +kernel
theorem dX7_best_154 : decode cX7_best 154 = .ok (.goto (-118), 3) := by decide +kernel
theorem dX7_best_157 : decode cX7_best 157 = .ok (.iconst (-1), 1) := by decide +kernel
theorem dX7_best_158 : decode cX7_best 158 = .ok (.ireturn, 1) := by decide +kernel
theorem dX7_above_0 : decode cX7_above 0 = .ok (.iconst 0, 1) := by decide +kernel
theorem dX7_above_1 : decode cX7_above 1 = .ok (.istore 4, 2) := by decide +kernel
theorem dX7_above_3 : decode cX7_above 3 = .ok (.iconst 0, 1) := by decide +kernel
theorem dX7_above_4 : decode cX7_above 4 = .ok (.istore 5, 2) := by decide +kernel
theorem dX7_above_6 : decode cX7_above 6 = .ok (.iload 5, 2) := by decide +kernel
theorem dX7_above_8 : decode cX7_above 8 = .ok (.bipush 16, 2) := by decide +kernel
theorem dX7_above_10 : decode cX7_above 10 = .ok (.if_icmp .ge 57, 3) := by decide +kernel
theorem dX7_above_13 : decode cX7_above 13 = .ok (.aload_n 0, 1) := by decide +kernel
theorem dX7_above_14 : decode cX7_above 14 = .ok (.getfield 27, 3) := by decide +kernel
theorem dX7_above_17 : decode cX7_above 17 = .ok (.iload 5, 2) := by decide +kernel
theorem dX7_above_19 : decode cX7_above 19 = .ok (.baload, 1) := by decide +kernel
theorem dX7_above_20 : decode cX7_above 20 = .ok (.ifCond .eq 37, 3) := by decide +kernel
theorem dX7_above_23 : decode cX7_above 23 = .ok (.aload_n 0, 1) := by decide +kernel
theorem dX7_above_24 : decode cX7_above 24 = .ok (.getfield 7, 3) := by decide +kernel
theorem dX7_above_27 : decode cX7_above 27 = .ok (.bipush 16, 2) := by decide +kernel
theorem dX7_above_29 : decode cX7_above 29 = .ok (.iload_n 1, 1) := by decide +kernel
theorem dX7_above_30 : decode cX7_above 30 = .ok (.imul, 1) := by decide +kernel
theorem dX7_above_31 : decode cX7_above 31 = .ok (.iload 5, 2) := by decide +kernel
theorem dX7_above_33 : decode cX7_above 33 = .ok (.iadd, 1) := by decide +kernel
theorem dX7_above_34 : decode cX7_above 34 = .ok (.iaload, 1) := by decide +kernel
theorem dX7_above_35 : decode cX7_above 35 = .ok (.ifCond .ne 22, 3) := by decide +kernel
theorem dX7_above_38 : decode cX7_above 38 = .ok (.aload_n 0, 1) := by decide +kernel
theorem dX7_above_39 : decode cX7_above 39 = .ok (.getfield 23, 3) := by decide +kernel
theorem dX7_above_42 : decode cX7_above 42 = .ok (.iload 5, 2) := by decide +kernel
theorem dX7_above_44 : decode cX7_above 44 = .ok (.laload, 1) := by decide +kernel
theorem dX7_above_45 : decode cX7_above 45 = .ok (.lload_n 2, 1) := by decide +kernel
theorem dX7_above_46 : decode cX7_above 46 = .ok (.lcmp, 1) := by decide +kernel
theorem dX7_above_47 : decode cX7_above 47 = .ok (.ifCond .le 10, 3) := by decide +kernel
theorem dX7_above_50 : decode cX7_above 50 = .ok (.iload 4, 2) := by decide +kernel
theorem dX7_above_52 : decode cX7_above 52 = .ok (.iconst 1, 1) := by decide +kernel
theorem dX7_above_53 : decode cX7_above 53 = .ok (.iadd, 1) := by decide +kernel
theorem dX7_above_54 : decode cX7_above 54 = .ok (.goto 5, 3) := by decide +kernel
theorem dX7_above_57 : decode cX7_above 57 = .ok (.iload 4, 2) := by decide +kernel
theorem dX7_above_59 : decode cX7_above 59 = .ok (.istore 4, 2) := by decide +kernel
theorem dX7_above_61 : decode cX7_above 61 = .ok (.iinc 5 1, 3) := by decide +kernel
theorem dX7_above_64 : decode cX7_above 64 = .ok (.goto (-58), 3) := by decide +kernel
theorem dX7_above_67 : decode cX7_above 67 = .ok (.iload 4, 2) := by decide +kernel
theorem dX7_above_69 : decode cX7_above 69 = .ok (.ireturn, 1) := by decide +kernel
set_option maxRecDepth 20000 in
theorem ggX7_reads_X7_noUser : GoodIn wsX7_reads wsX7_noUser := goodIn_r _ [8] (by decide +kernel) (by decide +kernel)
set_option maxRecDepth 20000 in
theorem gX7_reads_X7_noUser : GoodIn wsX7_reads (va_wsS RX7 45 yX7_noUser wsX7_noUser) := goodIn_app (goodIn_of _ (by decide +kernel)) ggX7_reads_X7_noUser
set_option maxRecDepth 20000 in
theorem ggX7_reads_X7_scoreAll : GoodIn wsX7_reads wsX7_scoreAll := goodIn_r _ [12, 13, 4, 3, 14, 15, 16, 7, 17, 18, 19, 20, 21, 22, 35, 36, 37, 38, 39, 40, 41, 42, 43] (by decide +kernel) (by decide +kernel)
set_option maxRecDepth 20000 in
theorem gX7_reads_X7_scoreAll : GoodIn wsX7_reads (wsV RX7 93 RX7 yX7_scoreAll wsX7_scoreAll) := goodIn_app (goodIn_of _ (by decide +kernel)) ggX7_reads_X7_scoreAll
set_option maxRecDepth 20000 in
theorem ggX7_reads_X7_entry : GoodIn wsX7_reads wsX7_entry := goodIn_r _ [26, 4, 27, 28, 29, 7, 30, 35, 36, 37, 38, 39, 40, 41, 42, 43] (by decide +kernel) (by decide +kernel)
set_option maxRecDepth 20000 in
theorem gX7_reads_X7_entry : GoodIn wsX7_reads (wsV RX7 86 RX7 yX7_entry wsX7_entry) := goodIn_app (goodIn_of _ (by decide +kernel)) ggX7_reads_X7_entry
set_option maxRecDepth 20000 in
theorem ggX7_reads_X7_above : GoodIn wsX7_reads wsX7_above := goodIn_r _ [34, 2, 3, 13, 35, 36, 37, 38, 39, 40, 41, 42, 43] (by decide +kernel) (by decide +kernel)
set_option maxRecDepth 20000 in
theorem gX7_reads_X7_above : GoodIn wsX7_reads (wsV RX7 101 RX7 yX7_above wsX7_above) := goodIn_app (goodIn_of _ (by decide +kernel)) ggX7_reads_X7_above
theorem dX7_reads_0 : decode cX7_reads 0 = .ok (.aload_n 0, 1) := by decide +kernel
theorem dX7_reads_1 : decode cX7_reads 1 = .ok (.getfield 41, 3) := by decide +kernel
theorem dX7_reads_4 : decode cX7_reads 4 = .ok (.ifCond .eq 6, 3) := by decide +kernel
theorem dX7_reads_7 : decode cX7_reads 7 = .ok (.bipush (-3), 2) := by decide +kernel
theorem dX7_reads_9 : decode cX7_reads 9 = .ok (.ireturn, 1) := by decide +kernel
theorem dX7_reads_10 : decode cX7_reads 10 = .ok (.iload_n 1, 1) := by decide +kernel
theorem dX7_reads_11 : decode cX7_reads 11 = .ok (.invokestatic 45, 3) := by decide +kernel
theorem dX7_reads_14 : decode cX7_reads 14 = .ok (.ifCond .ne 14, 3) := by decide +kernel
theorem dX7_reads_17 : decode cX7_reads 17 = .ok (.iload_n 2, 1) := by decide +kernel
theorem dX7_reads_18 : decode cX7_reads 18 = .ok (.iconst 1, 1) := by decide +kernel
theorem dX7_reads_19 : decode cX7_reads 19 = .ok (.if_icmp .lt 9, 3) := by decide +kernel
theorem dX7_reads_22 : decode cX7_reads 22 = .ok (.iload_n 2, 1) := by decide +kernel
theorem dX7_reads_23 : decode cX7_reads 23 = .ok (.bipush 16, 2) := by decide +kernel
theorem dX7_reads_25 : decode cX7_reads 25 = .ok (.if_icmp .le 6, 3) := by decide +kernel
theorem dX7_reads_28 : decode cX7_reads 28 = .ok (.bipush (-2), 2) := by decide +kernel
theorem dX7_reads_30 : decode cX7_reads 30 = .ok (.ireturn, 1) := by decide +kernel
theorem dX7_reads_31 : decode cX7_reads 31 = .ok (.aload_n 0, 1) := by decide +kernel
theorem dX7_reads_32 : decode cX7_reads 32 = .ok (.iload_n 1, 1) := by decide +kernel
theorem dX7_reads_33 : decode cX7_reads 33 = .ok (.invokevirtual 93, 3) := by decide +kernel
theorem dX7_reads_36 : decode cX7_reads 36 = .ok (.iconst 0, 1) := by decide +kernel
theorem dX7_reads_37 : decode cX7_reads 37 = .ok (.istore_n 3, 1) := by decide +kernel
theorem dX7_reads_38 : decode cX7_reads 38 = .ok (.iload_n 3, 1) := by decide +kernel
theorem dX7_reads_39 : decode cX7_reads 39 = .ok (.bipush 16, 2) := by decide +kernel
theorem dX7_reads_41 : decode cX7_reads 41 = .ok (.if_icmp .ge 16, 3) := by decide +kernel
theorem dX7_reads_44 : decode cX7_reads 44 = .ok (.aload_n 0, 1) := by decide +kernel
theorem dX7_reads_45 : decode cX7_reads 45 = .ok (.getfield 27, 3) := by decide +kernel
theorem dX7_reads_48 : decode cX7_reads 48 = .ok (.iload_n 3, 1) := by decide +kernel
theorem dX7_reads_49 : decode cX7_reads 49 = .ok (.iconst 0, 1) := by decide +kernel
theorem dX7_reads_50 : decode cX7_reads 50 = .ok (.bastore, 1) := by decide +kernel
theorem dX7_reads_51 : decode cX7_reads 51 = .ok (.iinc 3 1, 3) := by decide +kernel
theorem dX7_reads_54 : decode cX7_reads 54 = .ok (.goto (-16), 3) := by decide +kernel
theorem dX7_reads_57 : decode cX7_reads 57 = .ok (.iconst 0, 1) := by decide +kernel
theorem dX7_reads_58 : decode cX7_reads 58 = .ok (.istore_n 3, 1) := by decide +kernel
theorem dX7_reads_59 : decode cX7_reads 59 = .ok (.iconst 0, 1) := by decide +kernel
theorem dX7_reads_60 : decode cX7_reads 60 = .ok (.istore 4, 2) := by decide +kernel
theorem dX7_reads_62 : decode cX7_reads 62 = .ok (.iload 4, 2) := by decide +kernel
theorem dX7_reads_64 : decode cX7_reads 64 = .ok (.bipush 16, 2) := by decide +kernel
theorem dX7_reads_66 : decode cX7_reads 66 = .ok (.if_icmp .ge 153, 3) := by decide +kernel
theorem dX7_reads_69 : decode cX7_reads 69 = .ok (.iconst 0, 1) := by decide +kernel
theorem dX7_reads_70 : decode cX7_reads 70 = .ok (.istore 5, 2) := by decide +kernel
theorem dX7_reads_72 : decode cX7_reads 72 = .ok (.iconst 0, 1) := by decide +kernel
theorem dX7_reads_73 : decode cX7_reads 73 = .ok (.istore 6, 2) := by decide +kernel
theorem dX7_reads_75 : decode cX7_reads 75 = .ok (.lconst 0, 1) := by decide +kernel
theorem dX7_reads_76 : decode cX7_reads 76 = .ok (.lstore 7, 2) := by decide +kernel
theorem dX7_reads_78 : decode cX7_reads 78 = .ok (.iconst 0, 1) := by decide +kernel
theorem dX7_reads_79 : decode cX7_reads 79 = .ok (.istore 9, 2) := by decide +kernel
theorem dX7_reads_81 : decode cX7_reads 81 = .ok (.iload 9, 2) := by decide +kernel
theorem dX7_reads_83 : decode cX7_reads 83 = .ok (.bipush 16, 2) := by decide +kernel
theorem dX7_reads_85 : decode cX7_reads 85 = .ok (.if_icmp .ge 105, 3) := by decide +kernel
theorem dX7_reads_88 : decode cX7_reads 88 = .ok (.aload_n 0, 1) := by decide +kernel
theorem dX7_reads_89 : decode cX7_reads 89 = .ok (.getfield 7, 3) := by decide +kernel
theorem dX7_reads_92 : decode cX7_reads 92 = .ok (.bipush 16, 2) := by decide +kernel
theorem dX7_reads_94 : decode cX7_reads 94 = .ok (.iload_n 1, 1) := by decide +kernel
theorem dX7_reads_95 : decode cX7_reads 95 = .ok (.imul, 1) := by decide +kernel
theorem dX7_reads_96 : decode cX7_reads 96 = .ok (.iload 9, 2) := by decide +kernel
theorem dX7_reads_98 : decode cX7_reads 98 = .ok (.iadd, 1) := by decide +kernel
theorem dX7_reads_99 : decode cX7_reads 99 = .ok (.iaload, 1) := by decide +kernel
theorem dX7_reads_100 : decode cX7_reads 100 = .ok (.istore 10, 2) := by decide +kernel
theorem dX7_reads_102 : decode cX7_reads 102 = .ok (.iload 10, 2) := by decide +kernel
theorem dX7_reads_104 : decode cX7_reads 104 = .ok (.ifCond .ne 7, 3) := by decide +kernel
theorem dX7_reads_107 : decode cX7_reads 107 = .ok (.iconst (-1), 1) := by decide +kernel
theorem dX7_reads_108 : decode cX7_reads 108 = .ok (.goto 11, 3) := by decide +kernel
theorem dX7_reads_111 : decode cX7_reads 111 = .ok (.aload_n 0, 1) := by decide +kernel
theorem dX7_reads_112 : decode cX7_reads 112 = .ok (.iload 9, 2) := by decide +kernel
theorem dX7_reads_114 : decode cX7_reads 114 = .ok (.iload 4, 2) := by decide +kernel
theorem dX7_reads_116 : decode cX7_reads 116 = .ok (.invokevirtual 86, 3) := by decide +kernel
theorem dX7_reads_119 : decode cX7_reads 119 = .ok (.istore 11, 2) := by decide +kernel
theorem dX7_reads_121 : decode cX7_reads 121 = .ok (.iload 11, 2) := by decide +kernel
theorem dX7_reads_123 : decode cX7_reads 123 = .ok (.ifCond .lt 61, 3) := by decide +kernel
theorem dX7_reads_126 : decode cX7_reads 126 = .ok (.aload_n 0, 1) := by decide +kernel
theorem dX7_reads_127 : decode cX7_reads 127 = .ok (.getfield 27, 3) := by decide +kernel
theorem dX7_reads_130 : decode cX7_reads 130 = .ok (.iload 11, 2) := by decide +kernel
theorem dX7_reads_132 : decode cX7_reads 132 = .ok (.iconst 1, 1) := by decide +kernel
theorem dX7_reads_133 : decode cX7_reads 133 = .ok (.bastore, 1) := by decide +kernel
theorem dX7_reads_134 : decode cX7_reads 134 = .ok (.iinc 6 1, 3) := by decide +kernel
theorem dX7_reads_137 : decode cX7_reads 137 = .ok (.lload 7, 2) := by decide +kernel
theorem dX7_reads_139 : decode cX7_reads 139 = .ok (.iload 10, 2) := by decide +kernel
theorem dX7_reads_141 : decode cX7_reads 141 = .ok (.i2l, 1) := by decide +kernel
theorem dX7_reads_142 : decode cX7_reads 142 = .ok (.aload_n 0, 1) := by decide +kernel
theorem dX7_reads_143 : decode cX7_reads 143 = .ok (.getfield 20, 3) := by decide +kernel
theorem dX7_reads_146 : decode cX7_reads 146 = .ok (.bipush 16, 2) := by decide +kernel
theorem dX7_reads_148 : decode cX7_reads 148 = .ok (.iload 11, 2) := by decide +kernel
theorem dX7_reads_150 : decode cX7_reads 150 = .ok (.imul, 1) := by decide +kernel
theorem dX7_reads_151 : decode cX7_reads 151 = .ok (.iload 9, 2) := by decide +kernel
theorem dX7_reads_153 : decode cX7_reads 153 = .ok (.iadd, 1) := by decide +kernel
theorem dX7_reads_154 : decode cX7_reads 154 = .ok (.iaload, 1) := by decide +kernel
theorem dX7_reads_155 : decode cX7_reads 155 = .ok (.i2l, 1) := by decide +kernel
theorem dX7_reads_156 : decode cX7_reads 156 = .ok (.lmul, 1) := by decide +kernel
theorem dX7_reads_157 : decode cX7_reads 157 = .ok (.ladd, 1) := by decide +kernel
theorem dX7_reads_158 : decode cX7_reads 158 = .ok (.lstore 7, 2) := by decide +kernel
theorem dX7_reads_160 : decode cX7_reads 160 = .ok (.aload_n 0, 1) := by decide +kernel
theorem dX7_reads_161 : decode cX7_reads 161 = .ok (.iload 9, 2) := by decide +kernel
theorem dX7_reads_163 : decode cX7_reads 163 = .ok (.iload 4, 2) := by decide +kernel
theorem dX7_reads_165 : decode cX7_reads 165 = .ok (.iconst 1, 1) := by decide +kernel
theorem dX7_reads_166 : decode cX7_reads 166 = .ok (.iadd, 1) := by decide +kernel
theorem dX7_reads_167 : decode cX7_reads 167 = .ok (.invokevirtual 86, 3) := by decide +kernel
theorem dX7_reads_170 : decode cX7_reads 170 = .ok (.ifCond .lt 10, 3) := by decide +kernel
theorem dX7_reads_173 : decode cX7_reads 173 = .ok (.iload 5, 2) := by decide +kernel
theorem dX7_reads_175 : decode cX7_reads 175 = .ok (.iconst 1, 1) := by decide +kernel
theorem dX7_reads_176 : decode cX7_reads 176 = .ok (.iadd, 1) := by decide +kernel
theorem dX7_reads_177 : decode cX7_reads 177 = .ok (.goto 5, 3) := by decide +kernel
theorem dX7_reads_180 : decode cX7_reads 180 = .ok (.iload 5, 2) := by decide +kernel
theorem dX7_reads_182 : decode cX7_reads 182 = .ok (.istore 5, 2) := by decide +kernel
theorem dX7_reads_184 : decode cX7_reads 184 = .ok (.iinc 9 1, 3) := by decide +kernel
theorem dX7_reads_187 : decode cX7_reads 187 = .ok (.goto (-106), 3) := by decide +kernel
theorem dX7_reads_190 : decode cX7_reads 190 = .ok (.iload_n 3, 1) := by decide +kernel
theorem dX7_reads_191 : decode cX7_reads 191 = .ok (.iload 6, 2) := by decide +kernel
theorem dX7_reads_193 : decode cX7_reads 193 = .ok (.iadd, 1) := by decide +kernel
theorem dX7_reads_194 : decode cX7_reads 194 = .ok (.istore_n 3, 1) := by decide +kernel
theorem dX7_reads_195 : decode cX7_reads 195 = .ok (.iload 5, 2) := by decide +kernel
theorem dX7_reads_197 : decode cX7_reads 197 = .ok (.ifCond .eq 14, 3) := by decide +kernel
theorem dX7_reads_200 : decode cX7_reads 200 = .ok (.aload_n 0, 1) := by decide +kernel
theorem dX7_reads_201 : decode cX7_reads 201 = .ok (.iload_n 1, 1) := by decide +kernel
theorem dX7_reads_202 : decode cX7_reads 202 = .ok (.lload 7, 2) := by decide +kernel
theorem dX7_reads_204 : decode cX7_reads 204 = .ok (.invokevirtual 101, 3) := by decide +kernel
theorem dX7_reads_207 : decode cX7_reads 207 = .ok (.iload_n 2, 1) := by decide +kernel
theorem dX7_reads_208 : decode cX7_reads 208 = .ok (.if_icmp .lt 5, 3) := by decide +kernel
theorem dX7_reads_211 : decode cX7_reads 211 = .ok (.iload_n 3, 1) := by decide +kernel
theorem dX7_reads_212 : decode cX7_reads 212 = .ok (.ireturn, 1) := by decide +kernel
theorem dX7_reads_213 : decode cX7_reads 213 = .ok (.iinc 4 1, 3) := by decide +kernel
theorem dX7_reads_216 : decode cX7_reads 216 = .ok (.goto (-154), 3) := by decide +kernel
theorem dX7_reads_219 : decode cX7_reads 219 = .ok (.iload_n 3, 1) := by decide +kernel
theorem dX7_reads_220 : decode cX7_reads 220 = .ok (.ireturn, 1) := by decide +kernel
set_option maxRecDepth 20000 in
theorem ggX7_share_X7_noUser : GoodIn wsX7_share wsX7_noUser := goodIn_r _ [9] (by decide +kernel) (by decide +kernel)
set_option maxRecDepth 20000 in
theorem gX7_share_X7_noUser : GoodIn wsX7_share (va_wsS RX7 45 yX7_noUser wsX7_noUser) := goodIn_app (goodIn_of _ (by decide +kernel)) ggX7_share_X7_noUser
set_option maxRecDepth 20000 in
theorem ggX7_share_X7_noItem : GoodIn wsX7_share wsX7_noItem := goodIn_r _ [12] (by decide +kernel) (by decide +kernel)
set_option maxRecDepth 20000 in
theorem gX7_share_X7_noItem : GoodIn wsX7_share (va_wsS RX7 49 yX7_noItem wsX7_noItem) := goodIn_app (goodIn_of _ (by decide +kernel)) ggX7_share_X7_noItem
set_option maxRecDepth 20000 in
theorem ggX7_share_X7_weigh : GoodIn wsX7_share wsX7_weigh := goodIn_r _ [16, 4, 17, 18, 19, 20, 8, 21, 5, 22, 23, 24, 25, 26, 27, 28, 29, 30] (by decide +kernel) (by decide +kernel)
set_option maxRecDepth 20000 in
theorem gX7_share_X7_weigh : GoodIn wsX7_share (wsV RX7 83 RX7 yX7_weigh wsX7_weigh) := goodIn_app (goodIn_of _ (by decide +kernel)) ggX7_share_X7_weigh
theorem dX7_share_0 : decode cX7_share 0 = .ok (.aload_n 0, 1) := by decide +kernel
theorem dX7_share_1 : decode cX7_share 1 = .ok (.getfield 41, 3) := by decide +kernel
theorem dX7_share_4 : decode cX7_share 4 = .ok (.ifCond .ne 24, 3) := by decide +kernel
theorem dX7_share_7 : decode cX7_share 7 = .ok (.iload_n 1, 1) := by decide +kernel
theorem dX7_share_8 : decode cX7_share 8 = .ok (.invokestatic 45, 3) := by decide +kernel
theorem dX7_share_11 : decode cX7_share 11 = .ok (.ifCond .ne 17, 3) := by decide +kernel
theorem dX7_share_14 : decode cX7_share 14 = .ok (.iload_n 2, 1) := by decide +kernel
theorem dX7_share_15 : decode cX7_share 15 = .ok (.invokestatic 49, 3) := by decide +kernel
theorem dX7_share_18 : decode cX7_share 18 = .ok (.ifCond .ne 10, 3) := by decide +kernel
theorem dX7_share_21 : decode cX7_share 21 = .ok (.iload_n 3, 1) := by decide +kernel
theorem dX7_share_22 : decode cX7_share 22 = .ok (.invokestatic 49, 3) := by decide +kernel
theorem dX7_share_25 : decode cX7_share 25 = .ok (.ifCond .eq 20, 3) := by decide +kernel
theorem dX7_share_28 : decode cX7_share 28 = .ok (.aload_n 0, 1) := by decide +kernel
theorem dX7_share_29 : decode cX7_share 29 = .ok (.getfield 41, 3) := by decide +kernel
theorem dX7_share_32 : decode cX7_share 32 = .ok (.ifCond .eq 9, 3) := by decide +kernel
theorem dX7_share_35 : decode cX7_share 35 = .ok (.ldc2_w 89, 3) := by decide +kernel
theorem dX7_share_38 : decode cX7_share 38 = .ok (.goto 6, 3) := by decide +kernel
theorem dX7_share_41 : decode cX7_share 41 = .ok (.ldc2_w 91, 3) := by decide +kernel
theorem dX7_share_44 : decode cX7_share 44 = .ok (.lreturn, 1) := by decide +kernel
theorem dX7_share_45 : decode cX7_share 45 = .ok (.aload_n 0, 1) := by decide +kernel
theorem dX7_share_46 : decode cX7_share 46 = .ok (.invokevirtual 83, 3) := by decide +kernel
theorem dX7_share_49 : decode cX7_share 49 = .ok (.aload_n 0, 1) := by decide +kernel
theorem dX7_share_50 : decode cX7_share 50 = .ok (.getfield 20, 3) := by decide +kernel
theorem dX7_share_53 : decode cX7_share 53 = .ok (.bipush 16, 2) := by decide +kernel
theorem dX7_share_55 : decode cX7_share 55 = .ok (.iload_n 2, 1) := by decide +kernel
theorem dX7_share_56 : decode cX7_share 56 = .ok (.imul, 1) := by decide +kernel
theorem dX7_share_57 : decode cX7_share 57 = .ok (.iload_n 3, 1) := by decide +kernel
theorem dX7_share_58 : decode cX7_share 58 = .ok (.iadd, 1) := by decide +kernel
theorem dX7_share_59 : decode cX7_share 59 = .ok (.iaload, 1) := by decide +kernel
theorem dX7_share_60 : decode cX7_share 60 = .ok (.i2l, 1) := by decide +kernel
theorem dX7_share_61 : decode cX7_share 61 = .ok (.aload_n 0, 1) := by decide +kernel
theorem dX7_share_62 : decode cX7_share 62 = .ok (.getfield 7, 3) := by decide +kernel
theorem dX7_share_65 : decode cX7_share 65 = .ok (.bipush 16, 2) := by decide +kernel
theorem dX7_share_67 : decode cX7_share 67 = .ok (.iload_n 1, 1) := by decide +kernel
theorem dX7_share_68 : decode cX7_share 68 = .ok (.imul, 1) := by decide +kernel
theorem dX7_share_69 : decode cX7_share 69 = .ok (.iload_n 3, 1) := by decide +kernel
theorem dX7_share_70 : decode cX7_share 70 = .ok (.iadd, 1) := by decide +kernel
theorem dX7_share_71 : decode cX7_share 71 = .ok (.iaload, 1) := by decide +kernel
theorem dX7_share_72 : decode cX7_share 72 = .ok (.i2l, 1) := by decide +kernel
theorem dX7_share_73 : decode cX7_share 73 = .ok (.lmul, 1) := by decide +kernel
theorem dX7_share_74 : decode cX7_share 74 = .ok (.lreturn, 1) := by decide +kernel
theorem dX7_number_0 : decode cX7_number 0 = .ok (.aload_n 0, 1) := by decide +kernel
theorem dX7_number_1 : decode cX7_number 1 = .ok (.getfield 41, 3) := by decide +kernel
theorem dX7_number_4 : decode cX7_number 4 = .ok (.ifCond .eq 6, 3) := by decide +kernel
theorem dX7_number_7 : decode cX7_number 7 = .ok (.bipush (-3), 2) := by decide +kernel
theorem dX7_number_9 : decode cX7_number 9 = .ok (.ireturn, 1) := by decide +kernel
theorem dX7_number_10 : decode cX7_number 10 = .ok (.iconst 0, 1) := by decide +kernel
theorem dX7_number_11 : decode cX7_number 11 = .ok (.istore_n 2, 1) := by decide +kernel
theorem dX7_number_12 : decode cX7_number 12 = .ok (.iconst 0, 1) := by decide +kernel
theorem dX7_number_13 : decode cX7_number 13 = .ok (.istore_n 3, 1) := by decide +kernel
theorem dX7_number_14 : decode cX7_number 14 = .ok (.iload_n 3, 1) := by decide +kernel
theorem dX7_number_15 : decode cX7_number 15 = .ok (.sipush 192, 3) := by decide +kernel
theorem dX7_number_18 : decode cX7_number 18 = .ok (.if_icmp .ge 26, 3) := by decide +kernel
theorem dX7_number_21 : decode cX7_number 21 = .ok (.aload_n 0, 1) := by decide +kernel
theorem dX7_number_22 : decode cX7_number 22 = .ok (.getfield 7, 3) := by decide +kernel
theorem dX7_number_25 : decode cX7_number 25 = .ok (.iload_n 3, 1) := by decide +kernel
theorem dX7_number_26 : decode cX7_number 26 = .ok (.iaload, 1) := by decide +kernel
theorem dX7_number_27 : decode cX7_number 27 = .ok (.ifCond .le 9, 3) := by decide +kernel
theorem dX7_number_30 : decode cX7_number 30 = .ok (.iload_n 2, 1) := by decide +kernel
theorem dX7_number_31 : decode cX7_number 31 = .ok (.iconst 1, 1) := by decide +kernel
theorem dX7_number_32 : decode cX7_number 32 = .ok (.iadd, 1) := by decide +kernel
theorem dX7_number_33 : decode cX7_number 33 = .ok (.goto 4, 3) := by decide +kernel
theorem dX7_number_36 : decode cX7_number 36 = .ok (.iload_n 2, 1) := by decide +kernel
theorem dX7_number_37 : decode cX7_number 37 = .ok (.istore_n 2, 1) := by decide +kernel
theorem dX7_number_38 : decode cX7_number 38 = .ok (.iinc 3 1, 3) := by decide +kernel
theorem dX7_number_41 : decode cX7_number 41 = .ok (.goto (-27), 3) := by decide +kernel
theorem dX7_number_44 : decode cX7_number 44 = .ok (.iload_n 1, 1) := by decide +kernel
theorem dX7_number_45 : decode cX7_number 45 = .ok (.ifCond .ne 10, 3) := by decide +kernel
theorem dX7_number_48 : decode cX7_number 48 = .ok (.aload_n 0, 1) := by decide +kernel
theorem dX7_number_49 : decode cX7_number 49 = .ok (.getfield 52, 3) := by decide +kernel
theorem dX7_number_52 : decode cX7_number 52 = .ok (.goto 26, 3) := by decide +kernel
theorem dX7_number_55 : decode cX7_number 55 = .ok (.iload_n 1, 1) := by decide +kernel
theorem dX7_number_56 : decode cX7_number 56 = .ok (.iconst 1, 1) := by decide +kernel
theorem dX7_number_57 : decode cX7_number 57 = .ok (.if_icmp .ne 10, 3) := by decide +kernel
theorem dX7_number_60 : decode cX7_number 60 = .ok (.aload_n 0, 1) := by decide +kernel
theorem dX7_number_61 : decode cX7_number 61 = .ok (.getfield 55, 3) := by decide +kernel
theorem dX7_number_64 : decode cX7_number 64 = .ok (.goto 14, 3) := by decide +kernel
theorem dX7_number_67 : decode cX7_number 67 = .ok (.iload_n 1, 1) := by decide +kernel
theorem dX7_number_68 : decode cX7_number 68 = .ok (.iconst 2, 1) := by decide +kernel
theorem dX7_number_69 : decode cX7_number 69 = .ok (.if_icmp .ne 7, 3) := by decide +kernel
theorem dX7_number_72 : decode cX7_number 72 = .ok (.iload_n 2, 1) := by decide +kernel
theorem dX7_number_73 : decode cX7_number 73 = .ok (.goto 5, 3) := by decide +kernel
theorem dX7_number_76 : decode cX7_number 76 = .ok (.bipush (-2), 2) := by decide +kernel
theorem dX7_number_78 : decode cX7_number 78 = .ok (.ireturn, 1) := by decide +kernel
theorem dJ9_floorMod_7cf53_0 : decode cJ9_floorMod_7cf53 0 = .ok (.iload_n 0, 1) := by decide +kernel
theorem dJ9_floorMod_7cf53_1 : decode cJ9_floorMod_7cf53 1 = .ok (.iload_n 1, 1) := by decide +kernel
theorem dJ9_floorMod_7cf53_2 : decode cJ9_floorMod_7cf53 2 = .ok (.irem, 1) := by decide +kernel
theorem dJ9_floorMod_7cf53_3 : decode cJ9_floorMod_7cf53 3 = .ok (.istore_n 2, 1) := by decide +kernel
theorem dJ9_floorMod_7cf53_4 : decode cJ9_floorMod_7cf53 4 = .ok (.iload_n 0, 1) := by decide +kernel
theorem dJ9_floorMod_7cf53_5 : decode cJ9_floorMod_7cf53 5 = .ok (.iload_n 1, 1) := by decide +kernel
theorem dJ9_floorMod_7cf53_6 : decode cJ9_floorMod_7cf53 6 = .ok (.ixor, 1) := by decide +kernel
theorem dJ9_floorMod_7cf53_7 : decode cJ9_floorMod_7cf53 7 = .ok (.ifCond .ge 11, 3) := by decide +kernel
theorem dJ9_floorMod_7cf53_10 : decode cJ9_floorMod_7cf53 10 = .ok (.iload_n 2, 1) := by decide +kernel
theorem dJ9_floorMod_7cf53_11 : decode cJ9_floorMod_7cf53 11 = .ok (.ifCond .eq 7, 3) := by decide +kernel
theorem dJ9_floorMod_7cf53_14 : decode cJ9_floorMod_7cf53 14 = .ok (.iload_n 2, 1) := by decide +kernel
theorem dJ9_floorMod_7cf53_15 : decode cJ9_floorMod_7cf53 15 = .ok (.iload_n 1, 1) := by decide +kernel
theorem dJ9_floorMod_7cf53_16 : decode cJ9_floorMod_7cf53 16 = .ok (.iadd, 1) := by decide +kernel
theorem dJ9_floorMod_7cf53_17 : decode cJ9_floorMod_7cf53 17 = .ok (.ireturn, 1) := by decide +kernel
theorem dJ9_floorMod_7cf53_18 : decode cJ9_floorMod_7cf53 18 = .ok (.iload_n 2, 1) := by decide +kernel
theorem dJ9_floorMod_7cf53_19 : decode cJ9_floorMod_7cf53 19 = .ok (.ireturn, 1) := by decide +kernel
theorem dL_law_0 : decode cL_law 0 = .ok (.new 7, 3) := by decide +kernel
theorem dL_law_3 : decode cL_law 3 = .ok (.dup, 1) := by decide +kernel
theorem dL_law_4 : decode cL_law 4 = .ok (.invokespecial 9, 3) := by decide +kernel
theorem dL_law_7 : decode cL_law 7 = .ok (.astore_n 1, 1) := by decide +kernel
theorem dL_law_8 : decode cL_law 8 = .ok (.new 10, 3) := by decide +kernel
theorem dL_law_11 : decode cL_law 11 = .ok (.dup, 1) := by decide +kernel
theorem dL_law_12 : decode cL_law 12 = .ok (.invokespecial 12, 3) := by decide +kernel
theorem dL_law_15 : decode cL_law 15 = .ok (.astore_n 2, 1) := by decide +kernel
theorem dL_law_16 : decode cL_law 16 = .ok (.iconst 0, 1) := by decide +kernel
theorem dL_law_17 : decode cL_law 17 = .ok (.istore_n 3, 1) := by decide +kernel
theorem dL_law_18 : decode cL_law 18 = .ok (.iload_n 3, 1) := by decide +kernel
theorem dL_law_19 : decode cL_law 19 = .ok (.aload_n 0, 1) := by decide +kernel
theorem dL_law_20 : decode cL_law 20 = .ok (.arraylength, 1) := by decide +kernel
theorem dL_law_21 : decode cL_law 21 = .ok (.iconst 4, 1) := by decide +kernel
theorem dL_law_22 : decode cL_law 22 = .ok (.isub, 1) := by decide +kernel
theorem dL_law_23 : decode cL_law 23 = .ok (.if_icmp .gt 518, 3) := by decide +kernel
theorem dL_law_26 : decode cL_law 26 = .ok (.aload_n 0, 1) := by decide +kernel
theorem dL_law_27 : decode cL_law 27 = .ok (.iload_n 3, 1) := by decide +kernel
theorem dL_law_28 : decode cL_law 28 = .ok (.iaload, 1) := by decide +kernel
theorem dL_law_29 : decode cL_law 29 = .ok (.bipush 15, 2) := by decide +kernel
theorem dL_law_31 : decode cL_law 31 = .ok (.iand, 1) := by decide +kernel
theorem dL_law_32 : decode cL_law 32 = .ok (.tableswitch 503 0 14 #[76, 119, 132, 155, 168, 181, 204, 237, 270, 303, 336, 370, 403, 436, 480], 76) := by decide +kernel
theorem dL_law_108 : decode cL_law 108 = .ok (.aload_n 1, 1) := by decide +kernel
theorem dL_law_109 : decode cL_law 109 = .ok (.aload_n 0, 1) := by decide +kernel
theorem dL_law_110 : decode cL_law 110 = .ok (.iload_n 3, 1) := by decide +kernel
theorem dL_law_111 : decode cL_law 111 = .ok (.iconst 1, 1) := by decide +kernel
theorem dL_law_112 : decode cL_law 112 = .ok (.iadd, 1) := by decide +kernel
theorem dL_law_113 : decode cL_law 113 = .ok (.iaload, 1) := by decide +kernel
theorem dL_law_114 : decode cL_law 114 = .ok (.aload_n 0, 1) := by decide +kernel
theorem dL_law_115 : decode cL_law 115 = .ok (.iload_n 3, 1) := by decide +kernel
theorem dL_law_116 : decode cL_law 116 = .ok (.iconst 2, 1) := by decide +kernel
theorem dL_law_117 : decode cL_law 117 = .ok (.iadd, 1) := by decide +kernel
theorem dL_law_118 : decode cL_law 118 = .ok (.iaload, 1) := by decide +kernel
theorem dL_law_119 : decode cL_law 119 = .ok (.aload_n 0, 1) := by decide +kernel
theorem dL_law_120 : decode cL_law 120 = .ok (.iload_n 3, 1) := by decide +kernel
theorem dL_law_121 : decode cL_law 121 = .ok (.iconst 3, 1) := by decide +kernel
theorem dL_law_122 : decode cL_law 122 = .ok (.iadd, 1) := by decide +kernel
theorem dL_law_123 : decode cL_law 123 = .ok (.iaload, 1) := by decide +kernel
theorem dL_law_124 : decode cL_law 124 = .ok (.invokevirtual 13, 3) := by decide +kernel
theorem dL_law_127 : decode cL_law 127 = .ok (.aload_n 2, 1) := by decide +kernel
theorem dL_law_128 : decode cL_law 128 = .ok (.aload_n 0, 1) := by decide +kernel
theorem dL_law_129 : decode cL_law 129 = .ok (.iload_n 3, 1) := by decide +kernel
theorem dL_law_130 : decode cL_law 130 = .ok (.iconst 1, 1) := by decide +kernel
theorem dL_law_131 : decode cL_law 131 = .ok (.iadd, 1) := by decide +kernel
theorem dL_law_132 : decode cL_law 132 = .ok (.iaload, 1) := by decide +kernel
theorem dL_law_133 : decode cL_law 133 = .ok (.aload_n 0, 1) := by decide +kernel
theorem dL_law_134 : decode cL_law 134 = .ok (.iload_n 3, 1) := by decide +kernel
theorem dL_law_135 : decode cL_law 135 = .ok (.iconst 2, 1) := by decide +kernel
theorem dL_law_136 : decode cL_law 136 = .ok (.iadd, 1) := by decide +kernel
theorem dL_law_137 : decode cL_law 137 = .ok (.iaload, 1) := by decide +kernel
theorem dL_law_138 : decode cL_law 138 = .ok (.aload_n 0, 1) := by decide +kernel
theorem dL_law_139 : decode cL_law 139 = .ok (.iload_n 3, 1) := by decide +kernel
theorem dL_law_140 : decode cL_law 140 = .ok (.iconst 3, 1) := by decide +kernel
theorem dL_law_141 : decode cL_law 141 = .ok (.iadd, 1) := by decide +kernel
theorem dL_law_142 : decode cL_law 142 = .ok (.iaload, 1) := by decide +kernel
theorem dL_law_143 : decode cL_law 143 = .ok (.invokevirtual 17, 3) := by decide +kernel
theorem dL_law_146 : decode cL_law 146 = .ok (.if_icmp .eq 389, 3) := by decide +kernel
theorem dL_law_149 : decode cL_law 149 = .ok (.iconst 0, 1) := by decide +kernel
theorem dL_law_150 : decode cL_law 150 = .ok (.ireturn, 1) := by decide +kernel
theorem dL_law_151 : decode cL_law 151 = .ok (.aload_n 1, 1) := by decide +kernel
theorem dL_law_152 : decode cL_law 152 = .ok (.invokevirtual 18, 3) := by decide +kernel
theorem dL_law_155 : decode cL_law 155 = .ok (.aload_n 2, 1) := by decide +kernel
theorem dL_law_156 : decode cL_law 156 = .ok (.invokevirtual 22, 3) := by decide +kernel
theorem dL_law_159 : decode cL_law 159 = .ok (.if_icmp .eq 376, 3) := by decide +kernel
theorem dL_law_162 : decode cL_law 162 = .ok (.iconst 0, 1) := by decide +kernel
theorem dL_law_163 : decode cL_law 163 = .ok (.ireturn, 1) := by decide +kernel
theorem dL_law_164 : decode cL_law 164 = .ok (.aload_n 1, 1) := by decide +kernel
theorem dL_law_165 : decode cL_law 165 = .ok (.aload_n 0, 1) := by decide +kernel
theorem dL_law_166 : decode cL_law 166 = .ok (.iload_n 3, 1) := by decide +kernel
theorem dL_law_167 : decode cL_law 167 = .ok (.iconst 1, 1) := by decide +kernel
theorem dL_law_168 : decode cL_law 168 = .ok (.iadd, 1) := by decide +kernel
theorem dL_law_169 : decode cL_law 169 = .ok (.iaload, 1) := by decide +kernel
theorem dL_law_170 : decode cL_law 170 = .ok (.invokevirtual 23, 3) := by decide +kernel
theorem dL_law_173 : decode cL_law 173 = .ok (.aload_n 2, 1) := by decide +kernel
theorem dL_law_174 : decode cL_law 174 = .ok (.aload_n 0, 1) := by decide +kernel
theorem dL_law_175 : decode cL_law 175 = .ok (.iload_n 3, 1) := by decide +kernel
theorem dL_law_176 : decode cL_law 176 = .ok (.iconst 1, 1) := by decide +kernel
theorem dL_law_177 : decode cL_law 177 = .ok (.iadd, 1) := by decide +kernel
theorem dL_law_178 : decode cL_law 178 = .ok (.iaload, 1) := by decide +kernel
theorem dL_law_179 : decode cL_law 179 = .ok (.invokevirtual 27, 3) := by decide +kernel
theorem dL_law_182 : decode cL_law 182 = .ok (.if_icmp .eq 353, 3) := by decide +kernel
theorem dL_law_185 : decode cL_law 185 = .ok (.iconst 0, 1) := by decide +kernel
theorem dL_law_186 : decode cL_law 186 = .ok (.ireturn, 1) := by decide +kernel
theorem dL_law_187 : decode cL_law 187 = .ok (.aload_n 1, 1) := by decide +kernel
theorem dL_law_188 : decode cL_law 188 = .ok (.invokevirtual 28, 3) := by decide +kernel
theorem dL_law_191 : decode cL_law 191 = .ok (.aload_n 2, 1) := by decide +kernel
theorem dL_law_192 : decode cL_law 192 = .ok (.invokevirtual 31, 3) := by decide +kernel
theorem dL_law_195 : decode cL_law 195 = .ok (.if_icmp .eq 340, 3) := by decide +kernel
theorem dL_law_198 : decode cL_law 198 = .ok (.iconst 0, 1) := by decide +kernel
theorem dL_law_199 : decode cL_law 199 = .ok (.ireturn, 1) := by decide +kernel
theorem dL_law_200 : decode cL_law 200 = .ok (.aload_n 1, 1) := by decide +kernel
theorem dL_law_201 : decode cL_law 201 = .ok (.invokevirtual 32, 3) := by decide +kernel
theorem dL_law_204 : decode cL_law 204 = .ok (.aload_n 2, 1) := by decide +kernel
theorem dL_law_205 : decode cL_law 205 = .ok (.invokevirtual 36, 3) := by decide +kernel
theorem dL_law_208 : decode cL_law 208 = .ok (.if_icmp .eq 327, 3) := by decide +kernel
theorem dL_law_211 : decode cL_law 211 = .ok (.iconst 0, 1) := by decide +kernel
theorem dL_law_212 : decode cL_law 212 = .ok (.ireturn, 1) := by decide +kernel
theorem dL_law_213 : decode cL_law 213 = .ok (.aload_n 1, 1) := by decide +kernel
theorem dL_law_214 : decode cL_law 214 = .ok (.aload_n 0, 1) := by decide +kernel
theorem dL_law_215 : decode cL_law 215 = .ok (.iload_n 3, 1) := by decide +kernel
theorem dL_law_216 : decode cL_law 216 = .ok (.iconst 1, 1) := by decide +kernel
theorem dL_law_217 : decode cL_law 217 = .ok (.iadd, 1) := by decide +kernel
theorem dL_law_218 : decode cL_law 218 = .ok (.iaload, 1) := by decide +kernel
theorem dL_law_219 : decode cL_law 219 = .ok (.invokevirtual 37, 3) := by decide +kernel
theorem dL_law_222 : decode cL_law 222 = .ok (.aload_n 2, 1) := by decide +kernel
theorem dL_law_223 : decode cL_law 223 = .ok (.aload_n 0, 1) := by decide +kernel
theorem dL_law_224 : decode cL_law 224 = .ok (.iload_n 3, 1) := by decide +kernel
theorem dL_law_225 : decode cL_law 225 = .ok (.iconst 1, 1) := by decide +kernel
theorem dL_law_226 : decode cL_law 226 = .ok (.iadd, 1) := by decide +kernel
theorem dL_law_227 : decode cL_law 227 = .ok (.iaload, 1) := by decide +kernel
theorem dL_law_228 : decode cL_law 228 = .ok (.invokevirtual 41, 3) := by decide +kernel
theorem dL_law_231 : decode cL_law 231 = .ok (.if_icmp .eq 304, 3) := by decide +kernel
theorem dL_law_234 : decode cL_law 234 = .ok (.iconst 0, 1) := by decide +kernel
theorem dL_law_235 : decode cL_law 235 = .ok (.ireturn, 1) := by decide +kernel
theorem dL_law_236 : decode cL_law 236 = .ok (.aload_n 1, 1) := by decide +kernel
theorem dL_law_237 : decode cL_law 237 = .ok (.aload_n 0, 1) := by decide +kernel
theorem dL_law_238 : decode cL_law 238 = .ok (.iload_n 3, 1) := by decide +kernel
theorem dL_law_239 : decode cL_law 239 = .ok (.iconst 1, 1) := by decide +kernel
theorem dL_law_240 : decode cL_law 240 = .ok (.iadd, 1) := by decide +kernel
theorem dL_law_241 : decode cL_law 241 = .ok (.iaload, 1) := by decide +kernel
theorem dL_law_242 : decode cL_law 242 = .ok (.aload_n 0, 1) := by decide +kernel
theorem dL_law_243 : decode cL_law 243 = .ok (.iload_n 3, 1) := by decide +kernel
theorem dL_law_244 : decode cL_law 244 = .ok (.iconst 2, 1) := by decide +kernel
theorem dL_law_245 : decode cL_law 245 = .ok (.iadd, 1) := by decide +kernel
theorem dL_law_246 : decode cL_law 246 = .ok (.iaload, 1) := by decide +kernel
theorem dL_law_247 : decode cL_law 247 = .ok (.invokevirtual 42, 3) := by decide +kernel
theorem dL_law_250 : decode cL_law 250 = .ok (.aload_n 2, 1) := by decide +kernel
theorem dL_law_251 : decode cL_law 251 = .ok (.aload_n 0, 1) := by decide +kernel
theorem dL_law_252 : decode cL_law 252 = .ok (.iload_n 3, 1) := by decide +kernel
theorem dL_law_253 : decode cL_law 253 = .ok (.iconst 1, 1) := by decide +kernel
theorem dL_law_254 : decode cL_law 254 = .ok (.iadd, 1) := by decide +kernel
theorem dL_law_255 : decode cL_law 255 = .ok (.iaload, 1) := by decide +kernel
theorem dL_law_256 : decode cL_law 256 = .ok (.aload_n 0, 1) := by decide +kernel
theorem dL_law_257 : decode cL_law 257 = .ok (.iload_n 3, 1) := by decide +kernel
theorem dL_law_258 : decode cL_law 258 = .ok (.iconst 2, 1) := by decide +kernel
theorem dL_law_259 : decode cL_law 259 = .ok (.iadd, 1) := by decide +kernel
theorem dL_law_260 : decode cL_law 260 = .ok (.iaload, 1) := by decide +kernel
theorem dL_law_261 : decode cL_law 261 = .ok (.invokevirtual 46, 3) := by decide +kernel
theorem dL_law_264 : decode cL_law 264 = .ok (.if_icmp .eq 271, 3) := by decide +kernel
theorem dL_law_267 : decode cL_law 267 = .ok (.iconst 0, 1) := by decide +kernel
theorem dL_law_268 : decode cL_law 268 = .ok (.ireturn, 1) := by decide +kernel
theorem dL_law_269 : decode cL_law 269 = .ok (.aload_n 1, 1) := by decide +kernel
theorem dL_law_270 : decode cL_law 270 = .ok (.aload_n 0, 1) := by decide +kernel
theorem dL_law_271 : decode cL_law 271 = .ok (.iload_n 3, 1) := by decide +kernel
theorem dL_law_272 : decode cL_law 272 = .ok (.iconst 1, 1) := by decide +kernel
theorem dL_law_273 : decode cL_law 273 = .ok (.iadd, 1) := by decide +kernel
theorem dL_law_274 : decode cL_law 274 = .ok (.iaload, 1) := by decide +kernel
theorem dL_law_275 : decode cL_law 275 = .ok (.aload_n 0, 1) := by decide +kernel
theorem dL_law_276 : decode cL_law 276 = .ok (.iload_n 3, 1) := by decide +kernel
theorem dL_law_277 : decode cL_law 277 = .ok (.iconst 2, 1) := by decide +kernel
theorem dL_law_278 : decode cL_law 278 = .ok (.iadd, 1) := by decide +kernel
theorem dL_law_279 : decode cL_law 279 = .ok (.iaload, 1) := by decide +kernel
theorem dL_law_280 : decode cL_law 280 = .ok (.invokevirtual 47, 3) := by decide +kernel
theorem dL_law_283 : decode cL_law 283 = .ok (.aload_n 2, 1) := by decide +kernel
theorem dL_law_284 : decode cL_law 284 = .ok (.aload_n 0, 1) := by decide +kernel
theorem dL_law_285 : decode cL_law 285 = .ok (.iload_n 3, 1) := by decide +kernel
theorem dL_law_286 : decode cL_law 286 = .ok (.iconst 1, 1) := by decide +kernel
theorem dL_law_287 : decode cL_law 287 = .ok (.iadd, 1) := by decide +kernel
theorem dL_law_288 : decode cL_law 288 = .ok (.iaload, 1) := by decide +kernel
theorem dL_law_289 : decode cL_law 289 = .ok (.aload_n 0, 1) := by decide +kernel
theorem dL_law_290 : decode cL_law 290 = .ok (.iload_n 3, 1) := by decide +kernel
theorem dL_law_291 : decode cL_law 291 = .ok (.iconst 2, 1) := by decide +kernel
theorem dL_law_292 : decode cL_law 292 = .ok (.iadd, 1) := by decide +kernel
theorem dL_law_293 : decode cL_law 293 = .ok (.iaload, 1) := by decide +kernel
theorem dL_law_294 : decode cL_law 294 = .ok (.invokevirtual 51, 3) := by decide +kernel
theorem dL_law_297 : decode cL_law 297 = .ok (.if_icmp .eq 238, 3) := by decide +kernel
theorem dL_law_300 : decode cL_law 300 = .ok (.iconst 0, 1) := by decide +kernel
theorem dL_law_301 : decode cL_law 301 = .ok (.ireturn, 1) := by decide +kernel
theorem dL_law_302 : decode cL_law 302 = .ok (.aload_n 1, 1) := by decide +kernel
theorem dL_law_303 : decode cL_law 303 = .ok (.aload_n 0, 1) := by decide +kernel
theorem dL_law_304 : decode cL_law 304 = .ok (.iload_n 3, 1) := by decide +kernel
theorem dL_law_305 : decode cL_law 305 = .ok (.iconst 1, 1) := by decide +kernel
theorem dL_law_306 : decode cL_law 306 = .ok (.iadd, 1) := by decide +kernel
theorem dL_law_307 : decode cL_law 307 = .ok (.iaload, 1) := by decide +kernel
theorem dL_law_308 : decode cL_law 308 = .ok (.aload_n 0, 1) := by decide +kernel
theorem dL_law_309 : decode cL_law 309 = .ok (.iload_n 3, 1) := by decide +kernel
theorem dL_law_310 : decode cL_law 310 = .ok (.iconst 2, 1) := by decide +kernel
theorem dL_law_311 : decode cL_law 311 = .ok (.iadd, 1) := by decide +kernel
theorem dL_law_312 : decode cL_law 312 = .ok (.iaload, 1) := by decide +kernel
theorem dL_law_313 : decode cL_law 313 = .ok (.invokevirtual 52, 3) := by decide +kernel
theorem dL_law_316 : decode cL_law 316 = .ok (.aload_n 2, 1) := by decide +kernel
theorem dL_law_317 : decode cL_law 317 = .ok (.aload_n 0, 1) := by decide +kernel
theorem dL_law_318 : decode cL_law 318 = .ok (.iload_n 3, 1) := by decide +kernel
theorem dL_law_319 : decode cL_law 319 = .ok (.iconst 1, 1) := by decide +kernel
theorem dL_law_320 : decode cL_law 320 = .ok (.iadd, 1) := by decide +kernel
theorem dL_law_321 : decode cL_law 321 = .ok (.iaload, 1) := by decide +kernel
theorem dL_law_322 : decode cL_law 322 = .ok (.aload_n 0, 1) := by decide +kernel
theorem dL_law_323 : decode cL_law 323 = .ok (.iload_n 3, 1) := by decide +kernel
theorem dL_law_324 : decode cL_law 324 = .ok (.iconst 2, 1) := by decide +kernel
theorem dL_law_325 : decode cL_law 325 = .ok (.iadd, 1) := by decide +kernel
theorem dL_law_326 : decode cL_law 326 = .ok (.iaload, 1) := by decide +kernel
theorem dL_law_327 : decode cL_law 327 = .ok (.invokevirtual 55, 3) := by decide +kernel
theorem dL_law_330 : decode cL_law 330 = .ok (.if_icmp .eq 205, 3) := by decide +kernel
theorem dL_law_333 : decode cL_law 333 = .ok (.iconst 0, 1) := by decide +kernel
theorem dL_law_334 : decode cL_law 334 = .ok (.ireturn, 1) := by decide +kernel
theorem dL_law_335 : decode cL_law 335 = .ok (.aload_n 1, 1) := by decide +kernel
theorem dL_law_336 : decode cL_law 336 = .ok (.aload_n 0, 1) := by decide +kernel
theorem dL_law_337 : decode cL_law 337 = .ok (.iload_n 3, 1) := by decide +kernel
theorem dL_law_338 : decode cL_law 338 = .ok (.iconst 1, 1) := by decide +kernel
theorem dL_law_339 : decode cL_law 339 = .ok (.iadd, 1) := by decide +kernel
theorem dL_law_340 : decode cL_law 340 = .ok (.iaload, 1) := by decide +kernel
theorem dL_law_341 : decode cL_law 341 = .ok (.aload_n 0, 1) := by decide +kernel
theorem dL_law_342 : decode cL_law 342 = .ok (.iload_n 3, 1) := by decide +kernel
theorem dL_law_343 : decode cL_law 343 = .ok (.iconst 2, 1) := by decide +kernel
theorem dL_law_344 : decode cL_law 344 = .ok (.iadd, 1) := by decide +kernel
theorem dL_law_345 : decode cL_law 345 = .ok (.iaload, 1) := by decide +kernel
theorem dL_law_346 : decode cL_law 346 = .ok (.invokevirtual 56, 3) := by decide +kernel
theorem dL_law_349 : decode cL_law 349 = .ok (.aload_n 2, 1) := by decide +kernel
theorem dL_law_350 : decode cL_law 350 = .ok (.aload_n 0, 1) := by decide +kernel
theorem dL_law_351 : decode cL_law 351 = .ok (.iload_n 3, 1) := by decide +kernel
theorem dL_law_352 : decode cL_law 352 = .ok (.iconst 1, 1) := by decide +kernel
theorem dL_law_353 : decode cL_law 353 = .ok (.iadd, 1) := by decide +kernel
theorem dL_law_354 : decode cL_law 354 = .ok (.iaload, 1) := by decide +kernel
theorem dL_law_355 : decode cL_law 355 = .ok (.aload_n 0, 1) := by decide +kernel
theorem dL_law_356 : decode cL_law 356 = .ok (.iload_n 3, 1) := by decide +kernel
theorem dL_law_357 : decode cL_law 357 = .ok (.iconst 2, 1) := by decide +kernel
theorem dL_law_358 : decode cL_law 358 = .ok (.iadd, 1) := by decide +kernel
theorem dL_law_359 : decode cL_law 359 = .ok (.iaload, 1) := by decide +kernel
theorem dL_law_360 : decode cL_law 360 = .ok (.invokevirtual 59, 3) := by decide +kernel
theorem dL_law_363 : decode cL_law 363 = .ok (.if_icmp .eq 172, 3) := by decide +kernel
theorem dL_law_366 : decode cL_law 366 = .ok (.iconst 0, 1) := by decide +kernel
theorem dL_law_367 : decode cL_law 367 = .ok (.ireturn, 1) := by decide +kernel
theorem dL_law_368 : decode cL_law 368 = .ok (.aload_n 1, 1) := by decide +kernel
theorem dL_law_369 : decode cL_law 369 = .ok (.aload_n 0, 1) := by decide +kernel
theorem dL_law_370 : decode cL_law 370 = .ok (.iload_n 3, 1) := by decide +kernel
theorem dL_law_371 : decode cL_law 371 = .ok (.iconst 1, 1) := by decide +kernel
theorem dL_law_372 : decode cL_law 372 = .ok (.iadd, 1) := by decide +kernel
theorem dL_law_373 : decode cL_law 373 = .ok (.iaload, 1) := by decide +kernel
theorem dL_law_374 : decode cL_law 374 = .ok (.aload_n 0, 1) := by decide +kernel
theorem dL_law_375 : decode cL_law 375 = .ok (.iload_n 3, 1) := by decide +kernel
theorem dL_law_376 : decode cL_law 376 = .ok (.iconst 2, 1) := by decide +kernel
theorem dL_law_377 : decode cL_law 377 = .ok (.iadd, 1) := by decide +kernel
theorem dL_law_378 : decode cL_law 378 = .ok (.iaload, 1) := by decide +kernel
theorem dL_law_379 : decode cL_law 379 = .ok (.invokevirtual 60, 3) := by decide +kernel
theorem dL_law_382 : decode cL_law 382 = .ok (.aload_n 2, 1) := by decide +kernel
theorem dL_law_383 : decode cL_law 383 = .ok (.aload_n 0, 1) := by decide +kernel
theorem dL_law_384 : decode cL_law 384 = .ok (.iload_n 3, 1) := by decide +kernel
theorem dL_law_385 : decode cL_law 385 = .ok (.iconst 1, 1) := by decide +kernel
theorem dL_law_386 : decode cL_law 386 = .ok (.iadd, 1) := by decide +kernel
theorem dL_law_387 : decode cL_law 387 = .ok (.iaload, 1) := by decide +kernel
theorem dL_law_388 : decode cL_law 388 = .ok (.aload_n 0, 1) := by decide +kernel
theorem dL_law_389 : decode cL_law 389 = .ok (.iload_n 3, 1) := by decide +kernel
theorem dL_law_390 : decode cL_law 390 = .ok (.iconst 2, 1) := by decide +kernel
theorem dL_law_391 : decode cL_law 391 = .ok (.iadd, 1) := by decide +kernel
theorem dL_law_392 : decode cL_law 392 = .ok (.iaload, 1) := by decide +kernel
theorem dL_law_393 : decode cL_law 393 = .ok (.invokevirtual 64, 3) := by decide +kernel
theorem dL_law_396 : decode cL_law 396 = .ok (.lcmp, 1) := by decide +kernel
theorem dL_law_397 : decode cL_law 397 = .ok (.ifCond .eq 138, 3) := by decide +kernel
theorem dL_law_400 : decode cL_law 400 = .ok (.iconst 0, 1) := by decide +kernel
theorem dL_law_401 : decode cL_law 401 = .ok (.ireturn, 1) := by decide +kernel
theorem dL_law_402 : decode cL_law 402 = .ok (.aload_n 1, 1) := by decide +kernel
theorem dL_law_403 : decode cL_law 403 = .ok (.aload_n 0, 1) := by decide +kernel
theorem dL_law_404 : decode cL_law 404 = .ok (.iload_n 3, 1) := by decide +kernel
theorem dL_law_405 : decode cL_law 405 = .ok (.iconst 1, 1) := by decide +kernel
theorem dL_law_406 : decode cL_law 406 = .ok (.iadd, 1) := by decide +kernel
theorem dL_law_407 : decode cL_law 407 = .ok (.iaload, 1) := by decide +kernel
theorem dL_law_408 : decode cL_law 408 = .ok (.aload_n 0, 1) := by decide +kernel
theorem dL_law_409 : decode cL_law 409 = .ok (.iload_n 3, 1) := by decide +kernel
theorem dL_law_410 : decode cL_law 410 = .ok (.iconst 2, 1) := by decide +kernel
theorem dL_law_411 : decode cL_law 411 = .ok (.iadd, 1) := by decide +kernel
theorem dL_law_412 : decode cL_law 412 = .ok (.iaload, 1) := by decide +kernel
theorem dL_law_413 : decode cL_law 413 = .ok (.invokevirtual 65, 3) := by decide +kernel
theorem dL_law_416 : decode cL_law 416 = .ok (.aload_n 2, 1) := by decide +kernel
theorem dL_law_417 : decode cL_law 417 = .ok (.aload_n 0, 1) := by decide +kernel
theorem dL_law_418 : decode cL_law 418 = .ok (.iload_n 3, 1) := by decide +kernel
theorem dL_law_419 : decode cL_law 419 = .ok (.iconst 1, 1) := by decide +kernel
theorem dL_law_420 : decode cL_law 420 = .ok (.iadd, 1) := by decide +kernel
theorem dL_law_421 : decode cL_law 421 = .ok (.iaload, 1) := by decide +kernel
theorem dL_law_422 : decode cL_law 422 = .ok (.aload_n 0, 1) := by decide +kernel
theorem dL_law_423 : decode cL_law 423 = .ok (.iload_n 3, 1) := by decide +kernel
theorem dL_law_424 : decode cL_law 424 = .ok (.iconst 2, 1) := by decide +kernel
theorem dL_law_425 : decode cL_law 425 = .ok (.iadd, 1) := by decide +kernel
theorem dL_law_426 : decode cL_law 426 = .ok (.iaload, 1) := by decide +kernel
theorem dL_law_427 : decode cL_law 427 = .ok (.invokevirtual 68, 3) := by decide +kernel
theorem dL_law_430 : decode cL_law 430 = .ok (.if_icmp .eq 105, 3) := by decide +kernel
theorem dL_law_433 : decode cL_law 433 = .ok (.iconst 0, 1) := by decide +kernel
theorem dL_law_434 : decode cL_law 434 = .ok (.ireturn, 1) := by decide +kernel
theorem dL_law_435 : decode cL_law 435 = .ok (.aload_n 1, 1) := by decide +kernel
theorem dL_law_436 : decode cL_law 436 = .ok (.aload_n 0, 1) := by decide +kernel
theorem dL_law_437 : decode cL_law 437 = .ok (.iload_n 3, 1) := by decide +kernel
theorem dL_law_438 : decode cL_law 438 = .ok (.iconst 1, 1) := by decide +kernel
theorem dL_law_439 : decode cL_law 439 = .ok (.iadd, 1) := by decide +kernel
theorem dL_law_440 : decode cL_law 440 = .ok (.iaload, 1) := by decide +kernel
theorem dL_law_441 : decode cL_law 441 = .ok (.aload_n 0, 1) := by decide +kernel
theorem dL_law_442 : decode cL_law 442 = .ok (.iload_n 3, 1) := by decide +kernel
theorem dL_law_443 : decode cL_law 443 = .ok (.iconst 2, 1) := by decide +kernel
theorem dL_law_444 : decode cL_law 444 = .ok (.iadd, 1) := by decide +kernel
theorem dL_law_445 : decode cL_law 445 = .ok (.iaload, 1) := by decide +kernel
theorem dL_law_446 : decode cL_law 446 = .ok (.invokevirtual 69, 3) := by decide +kernel
theorem dL_law_449 : decode cL_law 449 = .ok (.aload_n 2, 1) := by decide +kernel
theorem dL_law_450 : decode cL_law 450 = .ok (.aload_n 0, 1) := by decide +kernel
theorem dL_law_451 : decode cL_law 451 = .ok (.iload_n 3, 1) := by decide +kernel
theorem dL_law_452 : decode cL_law 452 = .ok (.iconst 1, 1) := by decide +kernel
theorem dL_law_453 : decode cL_law 453 = .ok (.iadd, 1) := by decide +kernel
theorem dL_law_454 : decode cL_law 454 = .ok (.iaload, 1) := by decide +kernel
theorem dL_law_455 : decode cL_law 455 = .ok (.aload_n 0, 1) := by decide +kernel
theorem dL_law_456 : decode cL_law 456 = .ok (.iload_n 3, 1) := by decide +kernel
theorem dL_law_457 : decode cL_law 457 = .ok (.iconst 2, 1) := by decide +kernel
theorem dL_law_458 : decode cL_law 458 = .ok (.iadd, 1) := by decide +kernel
theorem dL_law_459 : decode cL_law 459 = .ok (.iaload, 1) := by decide +kernel
theorem dL_law_460 : decode cL_law 460 = .ok (.invokevirtual 72, 3) := by decide +kernel
theorem dL_law_463 : decode cL_law 463 = .ok (.if_icmp .eq 72, 3) := by decide +kernel
theorem dL_law_466 : decode cL_law 466 = .ok (.iconst 0, 1) := by decide +kernel
theorem dL_law_467 : decode cL_law 467 = .ok (.ireturn, 1) := by decide +kernel
theorem dL_law_468 : decode cL_law 468 = .ok (.aload_n 1, 1) := by decide +kernel
theorem dL_law_469 : decode cL_law 469 = .ok (.aload_n 0, 1) := by decide +kernel
theorem dL_law_470 : decode cL_law 470 = .ok (.iload_n 3, 1) := by decide +kernel
theorem dL_law_471 : decode cL_law 471 = .ok (.iconst 1, 1) := by decide +kernel
theorem dL_law_472 : decode cL_law 472 = .ok (.iadd, 1) := by decide +kernel
theorem dL_law_473 : decode cL_law 473 = .ok (.iaload, 1) := by decide +kernel
theorem dL_law_474 : decode cL_law 474 = .ok (.aload_n 0, 1) := by decide +kernel
theorem dL_law_475 : decode cL_law 475 = .ok (.iload_n 3, 1) := by decide +kernel
theorem dL_law_476 : decode cL_law 476 = .ok (.iconst 2, 1) := by decide +kernel
theorem dL_law_477 : decode cL_law 477 = .ok (.iadd, 1) := by decide +kernel
theorem dL_law_478 : decode cL_law 478 = .ok (.iaload, 1) := by decide +kernel
theorem dL_law_479 : decode cL_law 479 = .ok (.aload_n 0, 1) := by decide +kernel
theorem dL_law_480 : decode cL_law 480 = .ok (.iload_n 3, 1) := by decide +kernel
theorem dL_law_481 : decode cL_law 481 = .ok (.iconst 3, 1) := by decide +kernel
theorem dL_law_482 : decode cL_law 482 = .ok (.iadd, 1) := by decide +kernel
theorem dL_law_483 : decode cL_law 483 = .ok (.iaload, 1) := by decide +kernel
theorem dL_law_484 : decode cL_law 484 = .ok (.invokevirtual 73, 3) := by decide +kernel
theorem dL_law_487 : decode cL_law 487 = .ok (.aload_n 2, 1) := by decide +kernel
theorem dL_law_488 : decode cL_law 488 = .ok (.aload_n 0, 1) := by decide +kernel
theorem dL_law_489 : decode cL_law 489 = .ok (.iload_n 3, 1) := by decide +kernel
theorem dL_law_490 : decode cL_law 490 = .ok (.iconst 1, 1) := by decide +kernel
theorem dL_law_491 : decode cL_law 491 = .ok (.iadd, 1) := by decide +kernel
theorem dL_law_492 : decode cL_law 492 = .ok (.iaload, 1) := by decide +kernel
theorem dL_law_493 : decode cL_law 493 = .ok (.aload_n 0, 1) := by decide +kernel
theorem dL_law_494 : decode cL_law 494 = .ok (.iload_n 3, 1) := by decide +kernel
theorem dL_law_495 : decode cL_law 495 = .ok (.iconst 2, 1) := by decide +kernel
theorem dL_law_496 : decode cL_law 496 = .ok (.iadd, 1) := by decide +kernel
theorem dL_law_497 : decode cL_law 497 = .ok (.iaload, 1) := by decide +kernel
theorem dL_law_498 : decode cL_law 498 = .ok (.aload_n 0, 1) := by decide +kernel
theorem dL_law_499 : decode cL_law 499 = .ok (.iload_n 3, 1) := by decide +kernel
theorem dL_law_500 : decode cL_law 500 = .ok (.iconst 3, 1) := by decide +kernel
theorem dL_law_501 : decode cL_law 501 = .ok (.iadd, 1) := by decide +kernel
theorem dL_law_502 : decode cL_law 502 = .ok (.iaload, 1) := by decide +kernel
theorem dL_law_503 : decode cL_law 503 = .ok (.invokevirtual 77, 3) := by decide +kernel
theorem dL_law_506 : decode cL_law 506 = .ok (.lcmp, 1) := by decide +kernel
theorem dL_law_507 : decode cL_law 507 = .ok (.ifCond .eq 28, 3) := by decide +kernel
theorem dL_law_510 : decode cL_law 510 = .ok (.iconst 0, 1) := by decide +kernel
theorem dL_law_511 : decode cL_law 511 = .ok (.ireturn, 1) := by decide +kernel
theorem dL_law_512 : decode cL_law 512 = .ok (.aload_n 1, 1) := by decide +kernel
theorem dL_law_513 : decode cL_law 513 = .ok (.aload_n 0, 1) := by decide +kernel
theorem dL_law_514 : decode cL_law 514 = .ok (.iload_n 3, 1) := by decide +kernel
theorem dL_law_515 : decode cL_law 515 = .ok (.iconst 1, 1) := by decide +kernel
theorem dL_law_516 : decode cL_law 516 = .ok (.iadd, 1) := by decide +kernel
theorem dL_law_517 : decode cL_law 517 = .ok (.iaload, 1) := by decide +kernel
theorem dL_law_518 : decode cL_law 518 = .ok (.invokevirtual 78, 3) := by decide +kernel
theorem dL_law_521 : decode cL_law 521 = .ok (.aload_n 2, 1) := by decide +kernel
theorem dL_law_522 : decode cL_law 522 = .ok (.aload_n 0, 1) := by decide +kernel
theorem dL_law_523 : decode cL_law 523 = .ok (.iload_n 3, 1) := by decide +kernel
theorem dL_law_524 : decode cL_law 524 = .ok (.iconst 1, 1) := by decide +kernel
theorem dL_law_525 : decode cL_law 525 = .ok (.iadd, 1) := by decide +kernel
theorem dL_law_526 : decode cL_law 526 = .ok (.iaload, 1) := by decide +kernel
theorem dL_law_527 : decode cL_law 527 = .ok (.invokevirtual 81, 3) := by decide +kernel
theorem dL_law_530 : decode cL_law 530 = .ok (.if_icmp .eq 5, 3) := by decide +kernel
theorem dL_law_533 : decode cL_law 533 = .ok (.iconst 0, 1) := by decide +kernel
theorem dL_law_534 : decode cL_law 534 = .ok (.ireturn, 1) := by decide +kernel
theorem dL_law_535 : decode cL_law 535 = .ok (.iinc 3 4, 3) := by decide +kernel
theorem dL_law_538 : decode cL_law 538 = .ok (.goto (-520), 3) := by decide +kernel
theorem dL_law_541 : decode cL_law 541 = .ok (.iconst 1, 1) := by decide +kernel
theorem dL_law_542 : decode cL_law 542 = .ok (.ireturn, 1) := by decide +kernel
abbrev vwCl : List vw_C := [(RX0, TX0, 3), (RX1, TX1, 3), (RX2, TX2, 2), (RX3, TX3, 3), (RX4, TX4, 1), (RX5, TX5, 1), (RX6, TX6, 8), (RX7, TX7, 9)]
