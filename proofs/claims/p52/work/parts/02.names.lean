/-! ===== BEGIN words of one list among another's, by their places ===== -/
theorem goodIn_r {big : List Cond} (ws : List Cond) (ps : List Nat) (hp : ws = ps.filterMap (fun i => big[i]?)) (h : ws.all goodWord = true) : GoodIn big ws := by
  intro w hw
  have h1 := List.all_eq_true.mp h w hw
  rw [hp] at hw
  obtain ⟨i, -, hi⟩ := List.mem_filterMap.mp hw
  have hm : w ∈ big := by first | exact List.mem_of_getElem? hi | exact List.getElem?_mem hi
  exact ⟨hm, good_of_word h1⟩
theorem goodIn_app {big a b : List Cond} (ha : GoodIn big a) (hb : GoodIn big b) : GoodIn big (a ++ b) := fun w h => (List.mem_append.mp h).elim (ha w) (hb w)
theorem goodIn_ca {big a b : List Cond} {c : Cond} (ha : GoodIn big (c :: a)) (hb : GoodIn big b) : GoodIn big (c :: (a ++ b)) := fun w h => (List.mem_cons.mp h).elim (fun e => ha w (List.mem_cons.mpr (Or.inl e))) (fun h => (List.mem_append.mp h).elim (fun h => ha w (List.mem_cons.mpr (Or.inr h))) (hb w))
theorem goodIn_sub {big ws : List Cond} (hm : ∀ w ∈ ws, w ∈ big) (h : ws.all goodWord = true) : GoodIn big ws := fun w hw => ⟨hm w hw, good_of_word (List.all_eq_true.mp h w hw)⟩
/-! ===== END ===== -/

/-! ===== BEGIN printed: names, fields, word lists, decode rows ===== -/
def RX0 : String := "ThreeThings$Days"
def TX0 : u_T := fun k => match k with
  | 0 => ("ThreeThings$Days", "isle", "LThreeThings$Island;", true)
  | 1 => ("ThreeThings$Days", "search", "LThreeThings$Search;", true)
  | 2 => ("ThreeThings$Days", "places", "LThreeThings$Places;", true)
  | 3 => ("ThreeThings$Days", "best", "[I", true)
  | 4 => ("ThreeThings$Days", "next", "[I", true)
  | _ => ("ThreeThings$Days", "doable", "[I", true)
def tyX0 : Nat → FieldType := fun k => match k with
  | 0 => .object "ThreeThings$Island"
  | 1 => .object "ThreeThings$Search"
  | 2 => .object "ThreeThings$Places"
  | 3 => .array .int
  | 4 => .array .int
  | _ => .array .int
abbrev wsX00 : List Cond := u_ws RX0 TX0 6
theorem nmX0 : ∀ a, a < 6 → ∀ b, b < 6 → a ≠ b → (TX0 a).2.1 ≠ (TX0 b).2.1 := by decide +kernel
theorem tyX0_ok : ∀ k, k < 6 → parseFieldDescriptor (TX0 k).2.2.1 = some (tyX0 k) := by decide +kernel
abbrev cX0_init : ByteArray := prog_2_method_1_code
def yX0_init : MethodName := ⟨RX0, "<init>", "(LThreeThings$Island;LThreeThings$Search;)V"⟩
abbrev cX0_best : ByteArray := prog_2_method_2_code
def yX0_best : MethodName := ⟨RX0, "best", "(III)I"⟩
abbrev cX0_takeOn : ByteArray := prog_2_method_3_code
def yX0_takeOn : MethodName := ⟨RX0, "takeOn", "(II)I"⟩
abbrev cX0_spread : ByteArray := prog_2_method_4_code
def yX0_spread : MethodName := ⟨RX0, "spread", "(I)V"⟩
abbrev cX0_gain : ByteArray := prog_2_method_5_code
def yX0_gain : MethodName := ⟨RX0, "gain", "(II)V"⟩
def RX1 : String := "ThreeThings$Island"
def TX1 : u_T := fun k => match k with
  | 0 => ("ThreeThings$Island", "people", "I", false)
  | 1 => ("ThreeThings$Island", "things", "I", false)
  | 2 => ("ThreeThings$Island", "works", "I", false)
  | 3 => ("ThreeThings$Island", "bags", "I", false)
  | 4 => ("ThreeThings$Island", "kind", "[I", true)
  | 5 => ("ThreeThings$Island", "start", "[I", true)
  | 6 => ("ThreeThings$Island", "weight", "[I", true)
  | 7 => ("ThreeThings$Island", "room", "[I", true)
  | 8 => ("ThreeThings$Island", "bag", "[I", true)
  | 9 => ("ThreeThings$Island", "hour", "[I", true)
  | 10 => ("ThreeThings$Island", "who", "[I", true)
  | 11 => ("ThreeThings$Island", "wants", "[I", true)
  | 12 => ("ThreeThings$Island", "worth", "[I", true)
  | 13 => ("ThreeThings$Island", "byHour", "[I", true)
  | _ => ("ThreeThings$Island", "worthOfSet", "[I", true)
def tyX1 : Nat → FieldType := fun k => match k with
  | 0 => .int
  | 1 => .int
  | 2 => .int
  | 3 => .int
  | 4 => .array .int
  | 5 => .array .int
  | 6 => .array .int
  | 7 => .array .int
  | 8 => .array .int
  | 9 => .array .int
  | 10 => .array .int
  | 11 => .array .int
  | 12 => .array .int
  | 13 => .array .int
  | _ => .array .int
abbrev wsX10 : List Cond := u_ws RX1 TX1 15
theorem nmX1 : ∀ a, a < 15 → ∀ b, b < 15 → a ≠ b → (TX1 a).2.1 ≠ (TX1 b).2.1 := by decide +kernel
theorem tyX1_ok : ∀ k, k < 15 → parseFieldDescriptor (TX1 k).2.2.1 = some (tyX1 k) := by decide +kernel
abbrev cX1_init : ByteArray := prog_3_method_1_code
def yX1_init : MethodName := ⟨RX1, "<init>", "()V"⟩
abbrev cX1_clear : ByteArray := prog_3_method_2_code
def yX1_clear : MethodName := ⟨RX1, "clear", "()V"⟩
abbrev cX1_addThing : ByteArray := prog_3_method_3_code
def yX1_addThing : MethodName := ⟨RX1, "addThing", "(II)V"⟩
abbrev cX1_become : ByteArray := prog_3_method_4_code
def yX1_become : MethodName := ⟨RX1, "become", "(LThreeThings$Island;)V"⟩
abbrev cX1_tallyWorks : ByteArray := prog_3_method_5_code
def yX1_tallyWorks : MethodName := ⟨RX1, "tallyWorks", "()V"⟩
abbrev cX1_isPerson : ByteArray := prog_3_method_6_code
def yX1_isPerson : MethodName := ⟨RX1, "isPerson", "(I)Z"⟩
abbrev cX1_isThing : ByteArray := prog_3_method_7_code
def yX1_isThing : MethodName := ⟨RX1, "isThing", "(I)Z"⟩
abbrev cX1_isWork : ByteArray := prog_3_method_8_code
def yX1_isWork : MethodName := ⟨RX1, "isWork", "(I)Z"⟩
abbrev cX1_isPlace : ByteArray := prog_3_method_9_code
def yX1_isPlace : MethodName := ⟨RX1, "isPlace", "(I)Z"⟩
abbrev cX1_isStep : ByteArray := prog_3_method_10_code
def yX1_isStep : MethodName := ⟨RX1, "isStep", "(II)Z"⟩
abbrev cX1_isNumber : ByteArray := prog_3_method_11_code
def yX1_isNumber : MethodName := ⟨RX1, "isNumber", "(I)Z"⟩
abbrev cX1_isBag : ByteArray := prog_3_method_12_code
def yX1_isBag : MethodName := ⟨RX1, "isBag", "(I)Z"⟩
abbrev cX1_isLiving : ByteArray := prog_3_method_13_code
def yX1_isLiving : MethodName := ⟨RX1, "isLiving", "(I)Z"⟩
abbrev cX1_weightOf : ByteArray := prog_3_method_15_code
def yX1_weightOf : MethodName := ⟨RX1, "weightOf", "(I)I"⟩
abbrev cX1_roomOf : ByteArray := prog_3_method_16_code
def yX1_roomOf : MethodName := ⟨RX1, "roomOf", "(I)I"⟩
abbrev cX1_ofWork : ByteArray := prog_3_method_17_code
def yX1_ofWork : MethodName := ⟨RX1, "ofWork", "(II)I"⟩
abbrev cX1_wantedBy : ByteArray := prog_3_method_19_code
def yX1_wantedBy : MethodName := ⟨RX1, "wantedBy", "(I)I"⟩
abbrev cX1_worthOf : ByteArray := prog_3_method_20_code
def yX1_worthOf : MethodName := ⟨RX1, "worthOf", "(I)I"⟩
abbrev cX1_worthOfAll : ByteArray := prog_3_method_21_code
def yX1_worthOfAll : MethodName := ⟨RX1, "worthOfAll", "()I"⟩
abbrev cX1_lastHour : ByteArray := prog_3_method_22_code
def yX1_lastHour : MethodName := ⟨RX1, "lastHour", "()I"⟩
def RX2 : String := "ThreeThings$Pairs"
def TX2 : u_T := fun k => match k with
  | 0 => ("ThreeThings$Pairs", "count", "I", false)
  | 1 => ("ThreeThings$Pairs", "first", "[I", true)
  | _ => ("ThreeThings$Pairs", "second", "[I", true)
def tyX2 : Nat → FieldType := fun k => match k with
  | 0 => .int
  | 1 => .array .int
  | _ => .array .int
abbrev wsX20 : List Cond := u_ws RX2 TX2 3
theorem nmX2 : ∀ a, a < 3 → ∀ b, b < 3 → a ≠ b → (TX2 a).2.1 ≠ (TX2 b).2.1 := by decide +kernel
theorem tyX2_ok : ∀ k, k < 3 → parseFieldDescriptor (TX2 k).2.2.1 = some (tyX2 k) := by decide +kernel
abbrev cX2_init : ByteArray := prog_4_method_1_code
def yX2_init : MethodName := ⟨RX2, "<init>", "(I)V"⟩
abbrev cX2_isFull : ByteArray := prog_4_method_2_code
def yX2_isFull : MethodName := ⟨RX2, "isFull", "()Z"⟩
abbrev cX2_add : ByteArray := prog_4_method_3_code
def yX2_add : MethodName := ⟨RX2, "add", "(II)V"⟩
abbrev cX2_firstOf : ByteArray := prog_4_method_4_code
def yX2_firstOf : MethodName := ⟨RX2, "firstOf", "(I)I"⟩
abbrev cX2_secondOf : ByteArray := prog_4_method_5_code
def yX2_secondOf : MethodName := ⟨RX2, "secondOf", "(I)I"⟩
def RX3 : String := "ThreeThings$Places"
def TX3 : u_T := fun k => match k with
  | 0 => ("ThreeThings$Places", "isle", "LThreeThings$Island;", true)
  | 1 => ("ThreeThings$Places", "where", "[I", true)
  | 2 => ("ThreeThings$Places", "load", "[I", true)
  | 3 => ("ThreeThings$Places", "held", "[I", true)
  | 4 => ("ThreeThings$Places", "inside", "[I", true)
  | _ => ("ThreeThings$Places", "limit", "I", false)
def tyX3 : Nat → FieldType := fun k => match k with
  | 0 => .object "ThreeThings$Island"
  | 1 => .array .int
  | 2 => .array .int
  | 3 => .array .int
  | 4 => .array .int
  | _ => .int
abbrev wsX30 : List Cond := u_ws RX3 TX3 6
theorem nmX3 : ∀ a, a < 6 → ∀ b, b < 6 → a ≠ b → (TX3 a).2.1 ≠ (TX3 b).2.1 := by decide +kernel
theorem tyX3_ok : ∀ k, k < 6 → parseFieldDescriptor (TX3 k).2.2.1 = some (tyX3 k) := by decide +kernel
abbrev cX3_init : ByteArray := prog_5_method_1_code
def yX3_init : MethodName := ⟨RX3, "<init>", "(LThreeThings$Island;)V"⟩
abbrev cX3_begin : ByteArray := prog_5_method_2_code
def yX3_begin : MethodName := ⟨RX3, "begin", "()V"⟩
abbrev cX3_decode : ByteArray := prog_5_method_4_code
def yX3_decode : MethodName := ⟨RX3, "decode", "(I)V"⟩
abbrev cX3_code : ByteArray := prog_5_method_5_code
def yX3_code : MethodName := ⟨RX3, "code", "()I"⟩
abbrev cX3_move : ByteArray := prog_5_method_6_code
def yX3_move : MethodName := ⟨RX3, "move", "(II)V"⟩
abbrev cX3_tally : ByteArray := prog_5_method_7_code
def yX3_tally : MethodName := ⟨RX3, "tally", "()V"⟩
abbrev cX3_whom : ByteArray := prog_5_method_8_code
def yX3_whom : MethodName := ⟨RX3, "whom", "(I)I"⟩
abbrev cX3_loadOf : ByteArray := prog_5_method_9_code
def yX3_loadOf : MethodName := ⟨RX3, "loadOf", "(I)I"⟩
abbrev cX3_heldBy : ByteArray := prog_5_method_10_code
def yX3_heldBy : MethodName := ⟨RX3, "heldBy", "(I)I"⟩
abbrev cX3_heaviest : ByteArray := prog_5_method_12_code
def yX3_heaviest : MethodName := ⟨RX3, "heaviest", "()I"⟩
abbrev cX3_fits : ByteArray := prog_5_method_13_code
def yX3_fits : MethodName := ⟨RX3, "fits", "(II)Z"⟩
abbrev cX3_targets : ByteArray := prog_5_method_14_code
def yX3_targets : MethodName := ⟨RX3, "targets", "(I)I"⟩
abbrev cX3_openBags : ByteArray := prog_5_method_15_code
def yX3_openBags : MethodName := ⟨RX3, "openBags", "(I)I"⟩
abbrev cX3_allows : ByteArray := prog_5_method_16_code
def yX3_allows : MethodName := ⟨RX3, "allows", "(II)Z"⟩
abbrev cX3_canBe : ByteArray := prog_5_method_17_code
def yX3_canBe : MethodName := ⟨RX3, "canBe", "()Z"⟩
abbrev cX3_doable : ByteArray := prog_5_method_18_code
def yX3_doable : MethodName := ⟨RX3, "doable", "()I"⟩
abbrev cX3_droppedFor : ByteArray := prog_5_method_19_code
def yX3_droppedFor : MethodName := ⟨RX3, "droppedFor", "(II)I"⟩
def RX4 : String := "ThreeThings$Reader"
def TX4 : u_T := fun k => match k with
  | 0 => ("ThreeThings$Reader", "texts", "LThreeThings$Rows;", true)
  | 1 => ("ThreeThings$Reader", "draft", "LThreeThings$Island;", true)
  | 2 => ("ThreeThings$Reader", "load", "[I", true)
  | 3 => ("ThreeThings$Reader", "t", "I", false)
  | _ => ("ThreeThings$Reader", "at", "I", false)
def tyX4 : Nat → FieldType := fun k => match k with
  | 0 => .object "ThreeThings$Rows"
  | 1 => .object "ThreeThings$Island"
  | 2 => .array .int
  | 3 => .int
  | _ => .int
abbrev wsX40 : List Cond := u_ws RX4 TX4 5
theorem nmX4 : ∀ a, a < 5 → ∀ b, b < 5 → a ≠ b → (TX4 a).2.1 ≠ (TX4 b).2.1 := by decide +kernel
theorem tyX4_ok : ∀ k, k < 5 → parseFieldDescriptor (TX4 k).2.2.1 = some (tyX4 k) := by decide +kernel
abbrev cX4_init : ByteArray := prog_6_method_1_code
def yX4_init : MethodName := ⟨RX4, "<init>", "(LThreeThings$Rows;)V"⟩
abbrev cX4_firstFault : ByteArray := prog_6_method_2_code
def yX4_firstFault : MethodName := ⟨RX4, "firstFault", "(I)I"⟩
abbrev cX4_sign : ByteArray := prog_6_method_3_code
def yX4_sign : MethodName := ⟨RX4, "sign", "()I"⟩
abbrev cX4_skipBlanks : ByteArray := prog_6_method_4_code
def yX4_skipBlanks : MethodName := ⟨RX4, "skipBlanks", "()V"⟩
abbrev cX4_figure : ByteArray := prog_6_method_5_code
def yX4_figure : MethodName := ⟨RX4, "figure", "(II)I"⟩
abbrev cX4_readPeople : ByteArray := prog_6_method_6_code
def yX4_readPeople : MethodName := ⟨RX4, "readPeople", "()Z"⟩
abbrev cX4_readThing : ByteArray := prog_6_method_7_code
def yX4_readThing : MethodName := ⟨RX4, "readThing", "()Z"⟩
abbrev cX4_kindOf : ByteArray := prog_6_method_8_code
def yX4_kindOf : MethodName := ⟨RX4, "kindOf", "(I)I"⟩
abbrev cX4_readWork : ByteArray := prog_6_method_9_code
def yX4_readWork : MethodName := ⟨RX4, "readWork", "()Z"⟩
abbrev cX4_readWants : ByteArray := prog_6_method_10_code
def yX4_readWants : MethodName := ⟨RX4, "readWants", "()I"⟩
def RX5 : String := "ThreeThings$Rows"
def TX5 : u_T := fun k => match k with
  | 0 => ("ThreeThings$Rows", "room", "I", true)
  | 1 => ("ThreeThings$Rows", "size", "[I", true)
  | _ => ("ThreeThings$Rows", "places", "[I", true)
def tyX5 : Nat → FieldType := fun k => match k with
  | 0 => .int
  | 1 => .array .int
  | _ => .array .int
abbrev wsX50 : List Cond := u_ws RX5 TX5 3
theorem nmX5 : ∀ a, a < 3 → ∀ b, b < 3 → a ≠ b → (TX5 a).2.1 ≠ (TX5 b).2.1 := by decide +kernel
theorem tyX5_ok : ∀ k, k < 3 → parseFieldDescriptor (TX5 k).2.2.1 = some (tyX5 k) := by decide +kernel
abbrev cX5_init : ByteArray := prog_7_method_1_code
def yX5_init : MethodName := ⟨RX5, "<init>", "(II)V"⟩
abbrev cX5_isOne : ByteArray := prog_7_method_2_code
def yX5_isOne : MethodName := ⟨RX5, "isOne", "(I)Z"⟩
abbrev cX5_missing : ByteArray := prog_7_method_3_code
def yX5_missing : MethodName := ⟨RX5, "missing", "(I)Z"⟩
abbrev cX5_sizeOf : ByteArray := prog_7_method_4_code
def yX5_sizeOf : MethodName := ⟨RX5, "sizeOf", "(I)I"⟩
abbrev cX5_make : ByteArray := prog_7_method_5_code
def yX5_make : MethodName := ⟨RX5, "make", "(III)V"⟩
abbrev cX5_hasPlaces : ByteArray := prog_7_method_7_code
def yX5_hasPlaces : MethodName := ⟨RX5, "hasPlaces", "(III)Z"⟩
abbrev cX5_get : ByteArray := prog_7_method_8_code
def yX5_get : MethodName := ⟨RX5, "get", "(II)I"⟩
abbrev cX5_set : ByteArray := prog_7_method_9_code
def yX5_set : MethodName := ⟨RX5, "set", "(III)V"⟩
abbrev cX5_there : ByteArray := prog_7_method_12_code
def yX5_there : MethodName := ⟨RX5, "there", "()I"⟩
abbrev cX5_mix : ByteArray := prog_7_method_13_code
def yX5_mix : MethodName := ⟨RX5, "mix", "(J)J"⟩
def RX6 : String := "ThreeThings$Search"
def TX6 : u_T := fun k => match k with
  | 0 => ("ThreeThings$Search", "isle", "LThreeThings$Island;", true)
  | 1 => ("ThreeThings$Search", "states", "LThreeThings$States;", true)
  | 2 => ("ThreeThings$Search", "places", "LThreeThings$Places;", true)
  | 3 => ("ThreeThings$Search", "wanted", "[I", true)
  | 4 => ("ThreeThings$Search", "near", "[I", true)
  | 5 => ("ThreeThings$Search", "nearEnd", "[I", true)
  | 6 => ("ThreeThings$Search", "nearCount", "I", false)
  | 7 => ("ThreeThings$Search", "expanded", "I", false)
  | 8 => ("ThreeThings$Search", "startCode", "I", false)
  | _ => ("ThreeThings$Search", "startLimit", "I", false)
def tyX6 : Nat → FieldType := fun k => match k with
  | 0 => .object "ThreeThings$Island"
  | 1 => .object "ThreeThings$States"
  | 2 => .object "ThreeThings$Places"
  | 3 => .array .int
  | 4 => .array .int
  | 5 => .array .int
  | 6 => .int
  | 7 => .int
  | 8 => .int
  | _ => .int
abbrev wsX60 : List Cond := u_ws RX6 TX6 10
theorem nmX6 : ∀ a, a < 10 → ∀ b, b < 10 → a ≠ b → (TX6 a).2.1 ≠ (TX6 b).2.1 := by decide +kernel
theorem tyX6_ok : ∀ k, k < 10 → parseFieldDescriptor (TX6 k).2.2.1 = some (tyX6 k) := by decide +kernel
abbrev cX6_init : ByteArray := prog_8_method_1_code
def yX6_init : MethodName := ⟨RX6, "<init>", "(LThreeThings$Island;LThreeThings$States;)V"⟩
abbrev cX6_spoil : ByteArray := prog_8_method_2_code
def yX6_spoil : MethodName := ⟨RX6, "spoil", "()V"⟩
abbrev cX6_begin : ByteArray := prog_8_method_3_code
def yX6_begin : MethodName := ⟨RX6, "begin", "(II)V"⟩
abbrev cX6_expandTo : ByteArray := prog_8_method_4_code
def yX6_expandTo : MethodName := ⟨RX6, "expandTo", "(I)V"⟩
abbrev cX6_expand : ByteArray := prog_8_method_5_code
def yX6_expand : MethodName := ⟨RX6, "expand", "(I)V"⟩
abbrev cX6_meet : ByteArray := prog_8_method_6_code
def yX6_meet : MethodName := ⟨RX6, "meet", "(III)V"⟩
abbrev cX6_has : ByteArray := prog_8_method_7_code
def yX6_has : MethodName := ⟨RX6, "has", "(I)Z"⟩
abbrev cX6_found : ByteArray := prog_8_method_8_code
def yX6_found : MethodName := ⟨RX6, "found", "()I"⟩
abbrev cX6_isFound : ByteArray := prog_8_method_9_code
def yX6_isFound : MethodName := ⟨RX6, "isFound", "(I)Z"⟩
abbrev cX6_depthOf : ByteArray := prog_8_method_10_code
def yX6_depthOf : MethodName := ⟨RX6, "depthOf", "(I)I"⟩
abbrev cX6_codeOf : ByteArray := prog_8_method_11_code
def yX6_codeOf : MethodName := ⟨RX6, "codeOf", "(I)I"⟩
abbrev cX6_stepTo : ByteArray := prog_8_method_12_code
def yX6_stepTo : MethodName := ⟨RX6, "stepTo", "(I)I"⟩
abbrev cX6_stateBefore : ByteArray := prog_8_method_13_code
def yX6_stateBefore : MethodName := ⟨RX6, "stateBefore", "(I)I"⟩
abbrev cX6_want : ByteArray := prog_8_method_14_code
def yX6_want : MethodName := ⟨RX6, "want", "(II)V"⟩
abbrev cX6_firstAsWanted : ByteArray := prog_8_method_15_code
def yX6_firstAsWanted : MethodName := ⟨RX6, "firstAsWanted", "()I"⟩
abbrev cX6_asNear : ByteArray := prog_8_method_16_code
def yX6_asNear : MethodName := ⟨RX6, "asNear", "(I)I"⟩
abbrev cX6_asWanted : ByteArray := prog_8_method_17_code
def yX6_asWanted : MethodName := ⟨RX6, "asWanted", "(I)Z"⟩
abbrev cX6_firstDoing : ByteArray := prog_8_method_18_code
def yX6_firstDoing : MethodName := ⟨RX6, "firstDoing", "(I)I"⟩
def RX7 : String := "ThreeThings$States"
def TX7 : u_T := fun k => match k with
  | 0 => ("ThreeThings$States", "count", "I", false)
  | 1 => ("ThreeThings$States", "code", "[I", true)
  | 2 => ("ThreeThings$States", "before", "[I", true)
  | 3 => ("ThreeThings$States", "by", "[I", true)
  | 4 => ("ThreeThings$States", "depth", "[I", true)
  | _ => ("ThreeThings$States", "order", "[I", true)
def tyX7 : Nat → FieldType := fun k => match k with
  | 0 => .int
  | 1 => .array .int
  | 2 => .array .int
  | 3 => .array .int
  | 4 => .array .int
  | _ => .array .int
abbrev wsX70 : List Cond := u_ws RX7 TX7 6
theorem nmX7 : ∀ a, a < 6 → ∀ b, b < 6 → a ≠ b → (TX7 a).2.1 ≠ (TX7 b).2.1 := by decide +kernel
theorem tyX7_ok : ∀ k, k < 6 → parseFieldDescriptor (TX7 k).2.2.1 = some (tyX7 k) := by decide +kernel
abbrev cX7_init : ByteArray := prog_9_method_1_code
def yX7_init : MethodName := ⟨RX7, "<init>", "()V"⟩
abbrev cX7_begin : ByteArray := prog_9_method_2_code
def yX7_begin : MethodName := ⟨RX7, "begin", "(I)V"⟩
abbrev cX7_reach : ByteArray := prog_9_method_3_code
def yX7_reach : MethodName := ⟨RX7, "reach", "(IIII)I"⟩
def RX8 : String := "ThreeThings$Theft"
def TX8 : u_T := fun k => match k with
  | 0 => ("ThreeThings$Theft", "isle", "LThreeThings$Island;", true)
  | 1 => ("ThreeThings$Theft", "states", "LThreeThings$States;", true)
  | 2 => ("ThreeThings$Theft", "search", "LThreeThings$Search;", true)
  | _ => ("ThreeThings$Theft", "places", "LThreeThings$Places;", true)
def tyX8 : Nat → FieldType := fun k => match k with
  | 0 => .object "ThreeThings$Island"
  | 1 => .object "ThreeThings$States"
  | 2 => .object "ThreeThings$Search"
  | _ => .object "ThreeThings$Places"
abbrev wsX80 : List Cond := u_ws RX8 TX8 4
theorem nmX8 : ∀ a, a < 4 → ∀ b, b < 4 → a ≠ b → (TX8 a).2.1 ≠ (TX8 b).2.1 := by decide +kernel
theorem tyX8_ok : ∀ k, k < 4 → parseFieldDescriptor (TX8 k).2.2.1 = some (tyX8 k) := by decide +kernel
abbrev cX8_init : ByteArray := prog_10_method_1_code
def yX8_init : MethodName := ⟨RX8, "<init>", "(LThreeThings$Island;LThreeThings$States;LThreeThings$Search;)V"⟩
abbrev cX8_fewestFor : ByteArray := prog_10_method_2_code
def yX8_fewestFor : MethodName := ⟨RX8, "fewestFor", "(LThreeThings$Places;II)I"⟩
abbrev cX8_within : ByteArray := prog_10_method_3_code
def yX8_within : MethodName := ⟨RX8, "within", "(LThreeThings$Places;II)I"⟩
abbrev cX8_begin : ByteArray := prog_10_method_4_code
def yX8_begin : MethodName := ⟨RX8, "begin", "(LThreeThings$Places;)V"⟩
abbrev cX8_expand : ByteArray := prog_10_method_5_code
def yX8_expand : MethodName := ⟨RX8, "expand", "(II)V"⟩
abbrev cX8_give : ByteArray := prog_10_method_6_code
def yX8_give : MethodName := ⟨RX8, "give", "(III)V"⟩
abbrev cX8_shift : ByteArray := prog_10_method_7_code
def yX8_shift : MethodName := ⟨RX8, "shift", "(II)I"⟩
abbrev cX8_reach : ByteArray := prog_10_method_8_code
def yX8_reach : MethodName := ⟨RX8, "reach", "(II)V"⟩
def RX9 : String := "ThreeThings$Told"
def TX9 : u_T := fun k => match k with
  | 0 => ("ThreeThings$Told", "asked", "I", false)
  | 1 => ("ThreeThings$Told", "upper", "J", false)
  | 2 => ("ThreeThings$Told", "lower", "J", false)
  | 3 => ("ThreeThings$Told", "latest", "I", false)
  | _ => ("ThreeThings$Told", "found", "[I", true)
def tyX9 : Nat → FieldType := fun k => match k with
  | 0 => .int
  | 1 => .long
  | 2 => .long
  | 3 => .int
  | _ => .array .int
abbrev wsX90 : List Cond := u_ws RX9 TX9 5
theorem nmX9 : ∀ a, a < 5 → ∀ b, b < 5 → a ≠ b → (TX9 a).2.1 ≠ (TX9 b).2.1 := by decide +kernel
theorem tyX9_ok : ∀ k, k < 5 → parseFieldDescriptor (TX9 k).2.2.1 = some (tyX9 k) := by decide +kernel
abbrev cX9_init : ByteArray := prog_11_method_1_code
def yX9_init : MethodName := ⟨RX9, "<init>", "()V"⟩
abbrev cX9_tell : ByteArray := prog_11_method_2_code
def yX9_tell : MethodName := ⟨RX9, "tell", "(I)I"⟩
abbrev cX9_find : ByteArray := prog_11_method_3_code
def yX9_find : MethodName := ⟨RX9, "find", "(I)I"⟩
abbrev cX9_tellFraction : ByteArray := prog_11_method_4_code
def yX9_tellFraction : MethodName := ⟨RX9, "tellFraction", "(II)V"⟩
def RX10 : String := "ThreeThings"
def TX10 : u_T := fun k => match k with
  | 0 => ("ThreeThings", "told", "LThreeThings$Told;", true)
  | 1 => ("ThreeThings", "rows", "LThreeThings$Rows;", true)
  | 2 => ("ThreeThings", "texts", "LThreeThings$Rows;", true)
  | 3 => ("ThreeThings", "reader", "LThreeThings$Reader;", true)
  | 4 => ("ThreeThings", "isle", "LThreeThings$Island;", true)
  | 5 => ("ThreeThings", "now", "LThreeThings$Places;", true)
  | 6 => ("ThreeThings", "trial", "LThreeThings$Places;", true)
  | 7 => ("ThreeThings", "done", "LThreeThings$Pairs;", true)
  | 8 => ("ThreeThings", "seen", "LThreeThings$Pairs;", true)
  | 9 => ("ThreeThings", "keptCode", "[I", true)
  | 10 => ("ThreeThings", "keptLimit", "[I", true)
  | 11 => ("ThreeThings", "search", "LThreeThings$Search;", true)
  | 12 => ("ThreeThings", "days", "LThreeThings$Days;", true)
  | _ => ("ThreeThings", "thief", "LThreeThings$Theft;", true)
def tyX10 : Nat → FieldType := fun k => match k with
  | 0 => .object "ThreeThings$Told"
  | 1 => .object "ThreeThings$Rows"
  | 2 => .object "ThreeThings$Rows"
  | 3 => .object "ThreeThings$Reader"
  | 4 => .object "ThreeThings$Island"
  | 5 => .object "ThreeThings$Places"
  | 6 => .object "ThreeThings$Places"
  | 7 => .object "ThreeThings$Pairs"
  | 8 => .object "ThreeThings$Pairs"
  | 9 => .array .int
  | 10 => .array .int
  | 11 => .object "ThreeThings$Search"
  | 12 => .object "ThreeThings$Days"
  | _ => .object "ThreeThings$Theft"
abbrev wsX100 : List Cond := u_ws RX10 TX10 14
theorem nmX10 : ∀ a, a < 14 → ∀ b, b < 14 → a ≠ b → (TX10 a).2.1 ≠ (TX10 b).2.1 := by decide +kernel
theorem tyX10_ok : ∀ k, k < 14 → parseFieldDescriptor (TX10 k).2.2.1 = some (tyX10 k) := by decide +kernel
abbrev cX10_init : ByteArray := prog_1_method_1_code
def yX10_init : MethodName := ⟨RX10, "<init>", "()V"⟩
abbrev cX10_row : ByteArray := prog_1_method_2_code
def yX10_row : MethodName := ⟨RX10, "row", "(II)I"⟩
abbrev cX10_lay : ByteArray := prog_1_method_3_code
def yX10_lay : MethodName := ⟨RX10, "lay", "(III)I"⟩
abbrev cX10_at : ByteArray := prog_1_method_4_code
def yX10_at : MethodName := ⟨RX10, "at", "(II)I"⟩
abbrev cX10_text : ByteArray := prog_1_method_8_code
def yX10_text : MethodName := ⟨RX10, "text", "(II)I"⟩
abbrev cX10_put : ByteArray := prog_1_method_9_code
def yX10_put : MethodName := ⟨RX10, "put", "(III)I"⟩
abbrev cX10_fault : ByteArray := prog_1_method_10_code
def yX10_fault : MethodName := ⟨RX10, "fault", "(I)I"⟩
abbrev cX10_island : ByteArray := prog_1_method_11_code
def yX10_island : MethodName := ⟨RX10, "island", "(I)I"⟩
abbrev cX10_thing : ByteArray := prog_1_method_12_code
def yX10_thing : MethodName := ⟨RX10, "thing", "(II)I"⟩
abbrev cX10_ofThing : ByteArray := prog_1_method_13_code
def yX10_ofThing : MethodName := ⟨RX10, "ofThing", "(II)I"⟩
abbrev cX10_load : ByteArray := prog_1_method_16_code
def yX10_load : MethodName := ⟨RX10, "load", "(I)I"⟩
abbrev cX10_step : ByteArray := prog_1_method_18_code
def yX10_step : MethodName := ⟨RX10, "step", "(II)I"⟩
abbrev cX10_doStep : ByteArray := prog_1_method_19_code
def yX10_doStep : MethodName := ⟨RX10, "doStep", "(II)V"⟩
abbrev cX10_may : ByteArray := prog_1_method_20_code
def yX10_may : MethodName := ⟨RX10, "may", "(II)I"⟩
abbrev cX10_steps : ByteArray := prog_1_method_21_code
def yX10_steps : MethodName := ⟨RX10, "steps", "()I"⟩
abbrev cX10_lowest : ByteArray := prog_1_method_22_code
def yX10_lowest : MethodName := ⟨RX10, "lowest", "(I)I"⟩
abbrev cX10_undo : ByteArray := prog_1_method_23_code
def yX10_undo : MethodName := ⟨RX10, "undo", "(I)I"⟩
abbrev cX10_does : ByteArray := prog_1_method_24_code
def yX10_does : MethodName := ⟨RX10, "does", "(I)I"⟩
abbrev cX10_keep : ByteArray := prog_1_method_25_code
def yX10_keep : MethodName := ⟨RX10, "keep", "(I)I"⟩
abbrev cX10_isKeep : ByteArray := prog_1_method_26_code
def yX10_isKeep : MethodName := ⟨RX10, "isKeep", "(I)Z"⟩
abbrev cX10_on : ByteArray := prog_1_method_27_code
def yX10_on : MethodName := ⟨RX10, "on", "(I)I"⟩
abbrev cX10_goOnFrom : ByteArray := prog_1_method_28_code
def yX10_goOnFrom : MethodName := ⟨RX10, "goOnFrom", "(II)V"⟩
abbrev cX10_can : ByteArray := prog_1_method_29_code
def yX10_can : MethodName := ⟨RX10, "can", "()I"⟩
abbrev cX10_fewest : ByteArray := prog_1_method_32_code
def yX10_fewest : MethodName := ⟨RX10, "fewest", "(I)I"⟩
abbrev cX10_wanted : ByteArray := prog_1_method_33_code
def yX10_wanted : MethodName := ⟨RX10, "wanted", "(I)I"⟩
abbrev cX10_way : ByteArray := prog_1_method_34_code
def yX10_way : MethodName := ⟨RX10, "way", "(II)I"⟩
abbrev cX10_all : ByteArray := prog_1_method_35_code
def yX10_all : MethodName := ⟨RX10, "all", "()I"⟩
abbrev cX10_till : ByteArray := prog_1_method_36_code
def yX10_till : MethodName := ⟨RX10, "till", "(I)I"⟩
abbrev cX10_most : ByteArray := prog_1_method_37_code
def yX10_most : MethodName := ⟨RX10, "most", "(I)I"⟩
abbrev cX10_hand : ByteArray := prog_1_method_38_code
def yX10_hand : MethodName := ⟨RX10, "hand", "(I)I"⟩
abbrev cX10_creed : ByteArray := prog_1_method_39_code
def yX10_creed : MethodName := ⟨RX10, "creed", "(II)I"⟩
abbrev cX10_theft : ByteArray := prog_1_method_40_code
def yX10_theft : MethodName := ⟨RX10, "theft", "(II)I"⟩
abbrev cX10_thefts : ByteArray := prog_1_method_41_code
def yX10_thefts : MethodName := ⟨RX10, "thefts", "(II)I"⟩
abbrev cX10_drops : ByteArray := prog_1_method_42_code
def yX10_drops : MethodName := ⟨RX10, "drops", "(II)I"⟩
abbrev cX10_beside : ByteArray := prog_1_method_43_code
def yX10_beside : MethodName := ⟨RX10, "beside", "(II)I"⟩
abbrev cX10_needs : ByteArray := prog_1_method_44_code
def yX10_needs : MethodName := ⟨RX10, "needs", "(II)I"⟩
abbrev cX10_pair : ByteArray := prog_1_method_45_code
def yX10_pair : MethodName := ⟨RX10, "pair", "()I"⟩
abbrev cX10_saw : ByteArray := prog_1_method_46_code
def yX10_saw : MethodName := ⟨RX10, "saw", "(II)I"⟩
abbrev cX10_forget : ByteArray := prog_1_method_47_code
def yX10_forget : MethodName := ⟨RX10, "forget", "(I)I"⟩
abbrev cX10_drowned : ByteArray := prog_1_method_48_code
def yX10_drowned : MethodName := ⟨RX10, "drowned", "()I"⟩
abbrev cX10_canHaveHad : ByteArray := prog_1_method_49_code
def yX10_canHaveHad : MethodName := ⟨RX10, "canHaveHad", "(I)Z"⟩
abbrev cX10_odds : ByteArray := prog_1_method_50_code
def yX10_odds : MethodName := ⟨RX10, "odds", "(I)I"⟩
abbrev cX10_image : ByteArray := prog_1_method_51_code
def yX10_image : MethodName := ⟨RX10, "image", "(I)I"⟩
abbrev cX10_gone : ByteArray := prog_1_method_52_code
def yX10_gone : MethodName := ⟨RX10, "gone", "(I)I"⟩
abbrev cX10_asked : ByteArray := prog_1_method_53_code
def yX10_asked : MethodName := ⟨RX10, "asked", "()I"⟩
abbrev cX10_upper : ByteArray := prog_1_method_54_code
def yX10_upper : MethodName := ⟨RX10, "upper", "()J"⟩
abbrev cX10_lower : ByteArray := prog_1_method_55_code
def yX10_lower : MethodName := ⟨RX10, "lower", "()J"⟩
abbrev cX10_count : ByteArray := prog_1_method_56_code
def yX10_count : MethodName := ⟨RX10, "count", "(I)I"⟩
abbrev cX10_countOf : ByteArray := prog_1_method_57_code
def yX10_countOf : MethodName := ⟨RX10, "countOf", "(I)I"⟩
abbrev cX10_digest : ByteArray := prog_1_method_60_code
def yX10_digest : MethodName := ⟨RX10, "digest", "()J"⟩
abbrev cX10_mixIsland : ByteArray := prog_1_method_61_code
def yX10_mixIsland : MethodName := ⟨RX10, "mixIsland", "(J)J"⟩
abbrev cX10_mixSeen : ByteArray := prog_1_method_62_code
def yX10_mixSeen : MethodName := ⟨RX10, "mixSeen", "(J)J"⟩
abbrev cX10_mixKept : ByteArray := prog_1_method_63_code
def yX10_mixKept : MethodName := ⟨RX10, "mixKept", "(J)J"⟩
def RX11 : String := "ThreeThingsModel"
def TX11 : u_T := fun k => match k with
  | _ => ("", "", "", false)
def tyX11 : Nat → FieldType := fun k => match k with
  | _ => .int
abbrev wsX110 : List Cond := u_ws RX11 TX11 0
theorem nmX11 : ∀ a, a < 0 → ∀ b, b < 0 → a ≠ b → (TX11 a).2.1 ≠ (TX11 b).2.1 := by decide +kernel
theorem tyX11_ok : ∀ k, k < 0 → parseFieldDescriptor (TX11 k).2.2.1 = some (tyX11 k) := by decide +kernel
def RJ6 : String := "java/lang/Integer"
def TJ6 : u_T := fun k => match k with
  | _ => ("", "", "", false)
def tyJ6 : Nat → FieldType := fun k => match k with
  | _ => .int
abbrev wsJ60 : List Cond := u_ws RJ6 TJ6 0
theorem nmJ6 : ∀ a, a < 0 → ∀ b, b < 0 → a ≠ b → (TJ6 a).2.1 ≠ (TJ6 b).2.1 := by decide +kernel
theorem tyJ6_ok : ∀ k, k < 0 → parseFieldDescriptor (TJ6 k).2.2.1 = some (tyJ6 k) := by decide +kernel
abbrev cJ6_bitCount_0f7a4 : ByteArray := prog_14_method_49_code
def yJ6_bitCount_0f7a4 : MethodName := ⟨RJ6, "bitCount", "(I)I"⟩
def RJ9 : String := "java/lang/Math"
def TJ9 : u_T := fun k => match k with
  | _ => ("", "", "", false)
def tyJ9 : Nat → FieldType := fun k => match k with
  | _ => .int
abbrev wsJ90 : List Cond := u_ws RJ9 TJ9 0
theorem nmJ9 : ∀ a, a < 0 → ∀ b, b < 0 → a ≠ b → (TJ9 a).2.1 ≠ (TJ9 b).2.1 := by decide +kernel
theorem tyJ9_ok : ∀ k, k < 0 → parseFieldDescriptor (TJ9 k).2.2.1 = some (tyJ9 k) := by decide +kernel
abbrev cJ9_max_7cf53 : ByteArray := prog_15_method_65_code
def yJ9_max_7cf53 : MethodName := ⟨RJ9, "max", "(II)I"⟩
def RJ10 : String := "java/lang/System"
def TJ10 : u_T := fun k => match k with
  | _ => ("", "", "", false)
def tyJ10 : Nat → FieldType := fun k => match k with
  | _ => .int
abbrev wsJ100 : List Cond := u_ws RJ10 TJ10 0
theorem nmJ10 : ∀ a, a < 0 → ∀ b, b < 0 → a ≠ b → (TJ10 a).2.1 ≠ (TJ10 b).2.1 := by decide +kernel
theorem tyJ10_ok : ∀ k, k < 0 → parseFieldDescriptor (TJ10 k).2.2.1 = some (tyJ10 k) := by decide +kernel
def RJ7 : String := "java/util/Arrays"
def TJ7 : u_T := fun k => match k with
  | _ => ("", "", "", false)
def tyJ7 : Nat → FieldType := fun k => match k with
  | _ => .int
abbrev wsJ70 : List Cond := u_ws RJ7 TJ7 0
theorem nmJ7 : ∀ a, a < 0 → ∀ b, b < 0 → a ≠ b → (TJ7 a).2.1 ≠ (TJ7 b).2.1 := by decide +kernel
theorem tyJ7_ok : ∀ k, k < 0 → parseFieldDescriptor (TJ7 k).2.2.1 = some (tyJ7 k) := by decide +kernel
abbrev cJ7_rangeCheck_23922 : ByteArray := prog_17_method_30_code
def yJ7_rangeCheck_23922 : MethodName := ⟨RJ7, "rangeCheck", "(III)V"⟩
abbrev cJ7_fill_53178 : ByteArray := prog_17_method_103_code
def yJ7_fill_53178 : MethodName := ⟨RJ7, "fill", "([II)V"⟩
abbrev cJ7_fill_fda19 : ByteArray := prog_17_method_104_code
def yJ7_fill_fda19 : MethodName := ⟨RJ7, "fill", "([IIII)V"⟩
def RL : String := "ThreeThingsLaw"
abbrev cL_cell : ByteArray := method_2_code
def yL_cell : MethodName := ⟨RL, "cell", "([II)I"⟩
abbrev cL_put : ByteArray := method_3_code
def yL_put : MethodName := ⟨RL, "put", "(LThreeThings;II)I"⟩
abbrev cL_counts : ByteArray := method_4_code
def yL_counts : MethodName := ⟨RL, "counts", "(I)I"⟩
abbrev cL_bag : ByteArray := method_5_code
def yL_bag : MethodName := ⟨RL, "bag", "(I)Z"⟩
abbrev cL_living : ByteArray := method_6_code
def yL_living : MethodName := ⟨RL, "living", "(I)Z"⟩
abbrev cL_numbers : ByteArray := method_7_code
def yL_numbers : MethodName := ⟨RL, "numbers", "([III[I)V"⟩
abbrev cL_island : ByteArray := method_8_code
def yL_island : MethodName := ⟨RL, "island", "(LThreeThings;[I)Z"⟩
abbrev cL_tells : ByteArray := method_24_code
def yL_tells : MethodName := ⟨RL, "tells", "(LThreeThings;I)I"⟩
abbrev cL_law : ByteArray := code
def yL_law : MethodName := ⟨RL, "law", "([I)Z"⟩
abbrev cL_within : ByteArray := method_27_code
def yL_within : MethodName := ⟨RL, "within", "(LThreeThings;III)Z"⟩
abbrev cL_wanted : ByteArray := method_28_code
def yL_wanted : MethodName := ⟨RL, "wanted", "(LThreeThings;[IIII)Z"⟩
abbrev cL_thefts : ByteArray := method_29_code
def yL_thefts : MethodName := ⟨RL, "thefts", "(LThreeThings;II)Z"⟩
abbrev cL_drowned : ByteArray := method_30_code
def yL_drowned : MethodName := ⟨RL, "drowned", "(LThreeThings;[III)Z"⟩
def wsL_law_r1 : List Cond := [Cond.classLink RL 9 RX10, Cond.instantiable RX10 14, Cond.initialized RX10, Cond.arrayClass .int, Cond.methodLink RL 99 yX10_init, Cond.instanceMethod yX10_init, Cond.code yX10_init cX10_init 2 none, Cond.methodLink RX10 1 objectInit, Cond.instanceMethod objectInit, Cond.code objectInit ⟨#[0xb1]⟩ 1 none, Cond.classLink RX10 7 RX9, Cond.instantiable RX9 5, Cond.initialized RX9, Cond.fieldLink RX10 10 "ThreeThings" "told" "LThreeThings$Told;", Cond.classLink RX10 16 RX5, Cond.instantiable RX5 3, Cond.initialized RX5, Cond.fieldLink RX10 21 "ThreeThings" "rows" "LThreeThings$Rows;", Cond.fieldLink RX10 25 "ThreeThings" "texts" "LThreeThings$Rows;", Cond.classLink RX10 28 RX4, Cond.instantiable RX4 5, Cond.initialized RX4, Cond.fieldLink RX10 33 "ThreeThings" "reader" "LThreeThings$Reader;", Cond.classLink RX10 37 RX1]
def wsL_law_r2 : List Cond := [Cond.instantiable RX1 15, Cond.initialized RX1, Cond.fieldLink RX10 40 "ThreeThings" "isle" "LThreeThings$Island;", Cond.classLink RX10 44 RX3, Cond.instantiable RX3 6, Cond.initialized RX3, Cond.fieldLink RX10 49 "ThreeThings" "now" "LThreeThings$Places;", Cond.fieldLink RX10 53 "ThreeThings" "trial" "LThreeThings$Places;", Cond.classLink RX10 56 RX2, Cond.instantiable RX2 3, Cond.initialized RX2, Cond.fieldLink RX10 61 "ThreeThings" "done" "LThreeThings$Pairs;", Cond.fieldLink RX10 65 "ThreeThings" "seen" "LThreeThings$Pairs;", Cond.fieldLink RX10 68 "ThreeThings" "keptCode" "[I", Cond.fieldLink RX10 72 "ThreeThings" "keptLimit" "[I", Cond.classLink RX10 75 RX7, Cond.instantiable RX7 6, Cond.initialized RX7, Cond.classLink RX10 78 RX6, Cond.instantiable RX6 10, Cond.initialized RX6, Cond.fieldLink RX10 83 "ThreeThings" "search" "LThreeThings$Search;", Cond.classLink RX10 87 RX0, Cond.instantiable RX0 6]
def wsL_law_r3 : List Cond := [Cond.initialized RX0, Cond.fieldLink RX10 92 "ThreeThings" "days" "LThreeThings$Days;", Cond.classLink RX10 96 RX8, Cond.instantiable RX8 4, Cond.initialized RX8, Cond.fieldLink RX10 101 "ThreeThings" "thief" "LThreeThings$Theft;", Cond.instanceMethod yX9_init, Cond.code yX9_init cX9_init 1 none, Cond.methodLink RX9 3 objectInit, Cond.fieldLink RX9 9 "ThreeThings$Told" "lower" "J", Cond.fieldLink RX9 15 "ThreeThings$Told" "found" "[I", Cond.methodLink RX10 18 yX5_init, Cond.instanceMethod yX5_init, Cond.code yX5_init cX5_init 3 none, Cond.methodLink RX5 1 objectInit, Cond.fieldLink RX5 7 "ThreeThings$Rows" "room" "I", Cond.fieldLink RX5 13 "ThreeThings$Rows" "size" "[I", Cond.fieldLink RX5 17 "ThreeThings$Rows" "places" "[I", Cond.methodLink RX5 20 yJ7_fill_53178, Cond.static yJ7_fill_53178, Cond.initialized RJ7, Cond.code yJ7_fill_53178 cJ7_fill_53178 4 none, Cond.methodLink RX10 30 yX4_init, Cond.instanceMethod yX4_init]
def wsL_law_r4 : List Cond := [Cond.code yX4_init cX4_init 2 none, Cond.methodLink RX4 3 objectInit, Cond.classLink RX4 9 RX1, Cond.fieldLink RX4 12 "ThreeThings$Reader" "draft" "LThreeThings$Island;", Cond.fieldLink RX4 18 "ThreeThings$Reader" "load" "[I", Cond.fieldLink RX4 22 "ThreeThings$Reader" "texts" "LThreeThings$Rows;", Cond.instanceMethod yX1_init, Cond.code yX1_init cX1_init 1 none, Cond.methodLink RX1 3 objectInit, Cond.fieldLink RX1 9 "ThreeThings$Island" "kind" "[I", Cond.fieldLink RX1 15 "ThreeThings$Island" "start" "[I", Cond.fieldLink RX1 18 "ThreeThings$Island" "weight" "[I", Cond.fieldLink RX1 21 "ThreeThings$Island" "room" "[I", Cond.fieldLink RX1 24 "ThreeThings$Island" "bag" "[I", Cond.fieldLink RX1 27 "ThreeThings$Island" "hour" "[I", Cond.fieldLink RX1 30 "ThreeThings$Island" "who" "[I", Cond.fieldLink RX1 33 "ThreeThings$Island" "wants" "[I", Cond.fieldLink RX1 36 "ThreeThings$Island" "worth" "[I", Cond.fieldLink RX1 39 "ThreeThings$Island" "byHour" "[I", Cond.fieldLink RX1 42 "ThreeThings$Island" "worthOfSet" "[I", Cond.methodLink RX10 46 yX3_init, Cond.instanceMethod yX3_init, Cond.code yX3_init cX3_init 2 none, Cond.methodLink RX3 3 objectInit]
def wsL_law_r5 : List Cond := [Cond.fieldLink RX3 9 "ThreeThings$Places" "where" "[I", Cond.fieldLink RX3 15 "ThreeThings$Places" "load" "[I", Cond.fieldLink RX3 18 "ThreeThings$Places" "held" "[I", Cond.fieldLink RX3 21 "ThreeThings$Places" "inside" "[I", Cond.fieldLink RX3 24 "ThreeThings$Places" "limit" "I", Cond.fieldLink RX3 28 "ThreeThings$Places" "isle" "LThreeThings$Island;", Cond.methodLink RX10 58 yX2_init, Cond.instanceMethod yX2_init, Cond.code yX2_init cX2_init 2 none, Cond.methodLink RX2 1 objectInit, Cond.fieldLink RX2 7 "ThreeThings$Pairs" "first" "[I", Cond.fieldLink RX2 13 "ThreeThings$Pairs" "second" "[I", Cond.instanceMethod yX7_init, Cond.code yX7_init cX7_init 1 none, Cond.methodLink RX7 3 objectInit, Cond.fieldLink RX7 9 "ThreeThings$States" "code" "[I", Cond.fieldLink RX7 15 "ThreeThings$States" "before" "[I", Cond.fieldLink RX7 18 "ThreeThings$States" "by" "[I", Cond.fieldLink RX7 21 "ThreeThings$States" "depth" "[I", Cond.fieldLink RX7 24 "ThreeThings$States" "order" "[I", Cond.methodLink RX10 80 yX6_init, Cond.instanceMethod yX6_init, Cond.code yX6_init cX6_init 3 none, Cond.methodLink RX6 3 objectInit]
def wsL_law_r6 : List Cond := [Cond.fieldLink RX6 9 "ThreeThings$Search" "wanted" "[I", Cond.constant RX6 15 (80000), Cond.fieldLink RX6 16 "ThreeThings$Search" "near" "[I", Cond.fieldLink RX6 19 "ThreeThings$Search" "nearEnd" "[I", Cond.fieldLink RX6 22 "ThreeThings$Search" "isle" "LThreeThings$Island;", Cond.fieldLink RX6 26 "ThreeThings$Search" "states" "LThreeThings$States;", Cond.classLink RX6 30 RX3, Cond.fieldLink RX6 35 "ThreeThings$Search" "places" "LThreeThings$Places;", Cond.methodLink RX6 32 yX3_init, Cond.methodLink RX10 89 yX0_init, Cond.instanceMethod yX0_init, Cond.code yX0_init cX0_init 3 none, Cond.methodLink RX0 3 objectInit, Cond.fieldLink RX0 9 "ThreeThings$Days" "best" "[I", Cond.fieldLink RX0 15 "ThreeThings$Days" "next" "[I", Cond.fieldLink RX0 18 "ThreeThings$Days" "doable" "[I", Cond.fieldLink RX0 21 "ThreeThings$Days" "isle" "LThreeThings$Island;", Cond.fieldLink RX0 25 "ThreeThings$Days" "search" "LThreeThings$Search;", Cond.classLink RX0 29 RX3, Cond.fieldLink RX0 34 "ThreeThings$Days" "places" "LThreeThings$Places;", Cond.methodLink RX0 31 yX3_init, Cond.methodLink RX10 98 yX8_init, Cond.instanceMethod yX8_init, Cond.code yX8_init cX8_init 4 none]
def wsL_law_r7 : List Cond := [Cond.methodLink RX8 3 objectInit, Cond.fieldLink RX8 9 "ThreeThings$Theft" "isle" "LThreeThings$Island;", Cond.fieldLink RX8 15 "ThreeThings$Theft" "states" "LThreeThings$States;", Cond.fieldLink RX8 19 "ThreeThings$Theft" "search" "LThreeThings$Search;", Cond.classLink RX8 23 RX3, Cond.fieldLink RX8 28 "ThreeThings$Theft" "places" "LThreeThings$Places;", Cond.methodLink RX8 25 yX3_init, Cond.methodLink RL 100 yL_numbers, Cond.static yL_numbers, Cond.initialized RL, Cond.code yL_numbers cL_numbers 12 none, Cond.methodLink RL 14 yL_cell, Cond.static yL_cell, Cond.code yL_cell cL_cell 2 (some .int), Cond.constant RL 7 (268435455), Cond.methodLink RL 20 yL_bag, Cond.static yL_bag, Cond.code yL_bag cL_bag 1 (some .boolean), Cond.methodLink RL 24 yL_counts, Cond.static yL_counts, Cond.code yL_counts cL_counts 1 (some .int), Cond.methodLink RL 28 yL_living, Cond.static yL_living, Cond.code yL_living cL_living 1 (some .boolean)]
def wsL_law_r8 : List Cond := [Cond.methodLink RL 104 yL_island, Cond.static yL_island, Cond.code yL_island cL_island 5 (some .boolean), Cond.methodLink RL 31 yX10_text, Cond.instanceMethod yX10_text, Cond.selects RX10 yX10_text yX10_text, Cond.code yX10_text cX10_text 3 (some .int), Cond.methodLink RX10 105 yX5_isOne, Cond.instanceMethod yX5_isOne, Cond.selects RX5 yX5_isOne yX5_isOne, Cond.code yX5_isOne cX5_isOne 2 (some .boolean), Cond.methodLink RX10 109 yX9_find, Cond.instanceMethod yX9_find, Cond.selects RX9 yX9_find yX9_find, Cond.code yX9_find cX9_find 2 (some .int), Cond.fieldLink RX9 23 "ThreeThings$Told" "latest" "I", Cond.methodLink RX10 113 yX5_make, Cond.instanceMethod yX5_make, Cond.selects RX5 yX5_make yX5_make, Cond.code yX5_make cX5_make 4 none, Cond.methodLink RX5 30 yX5_isOne, Cond.methodLink RX5 34 yJ7_fill_fda19, Cond.static yJ7_fill_fda19, Cond.code yJ7_fill_fda19 cJ7_fill_fda19 5 none]
def wsL_law_r9 : List Cond := [Cond.methodLink RJ7 13 yJ7_rangeCheck_23922, Cond.static yJ7_rangeCheck_23922, Cond.code yJ7_rangeCheck_23922 cJ7_rangeCheck_23922 3 none, Cond.methodLink RL 35 yL_put, Cond.static yL_put, Cond.code yL_put cL_put 3 (some .int), Cond.methodLink RL 8 yX10_put, Cond.instanceMethod yX10_put, Cond.selects RX10 yX10_put yX10_put, Cond.code yX10_put cX10_put 5 (some .int), Cond.methodLink RX10 117 yX5_missing, Cond.instanceMethod yX5_missing, Cond.selects RX5 yX5_missing yX5_missing, Cond.code yX5_missing cX5_missing 2 (some .boolean), Cond.methodLink RX5 26 yX5_sizeOf, Cond.instanceMethod yX5_sizeOf, Cond.selects RX5 yX5_sizeOf yX5_sizeOf, Cond.code yX5_sizeOf cX5_sizeOf 2 (some .int), Cond.methodLink RX10 120 yX5_hasPlaces, Cond.instanceMethod yX5_hasPlaces, Cond.selects RX5 yX5_hasPlaces yX5_hasPlaces, Cond.code yX5_hasPlaces cX5_hasPlaces 5 (some .boolean), Cond.methodLink RX10 124 yX5_get, Cond.instanceMethod yX5_get]
def wsL_law_r10 : List Cond := [Cond.selects RX5 yX5_get yX5_get, Cond.code yX5_get cX5_get 3 (some .int), Cond.methodLink RX5 37 yX5_hasPlaces, Cond.methodLink RX10 128 yX5_set, Cond.instanceMethod yX5_set, Cond.selects RX5 yX5_set yX5_set, Cond.code yX5_set cX5_set 4 none, Cond.methodLink RL 38 yX10_fault, Cond.instanceMethod yX10_fault, Cond.selects RX10 yX10_fault yX10_fault, Cond.code yX10_fault cX10_fault 2 (some .int), Cond.methodLink RX10 148 yX4_firstFault, Cond.instanceMethod yX4_firstFault, Cond.selects RX4 yX4_firstFault yX4_firstFault, Cond.code yX4_firstFault cX4_firstFault 4 (some .int), Cond.fieldLink RX4 26 "ThreeThings$Reader" "t" "I", Cond.fieldLink RX4 30 "ThreeThings$Reader" "at" "I", Cond.methodLink RX4 33 yX1_clear, Cond.instanceMethod yX1_clear, Cond.selects RX1 yX1_clear yX1_clear, Cond.code yX1_clear cX1_clear 1 none, Cond.fieldLink RX1 45 "ThreeThings$Island" "people" "I", Cond.fieldLink RX1 49 "ThreeThings$Island" "things" "I", Cond.fieldLink RX1 52 "ThreeThings$Island" "works" "I"]
def wsL_law_r11 : List Cond := [Cond.fieldLink RX1 55 "ThreeThings$Island" "bags" "I", Cond.methodLink RX4 36 yJ7_fill_53178, Cond.methodLink RX4 42 yX4_skipBlanks, Cond.instanceMethod yX4_skipBlanks, Cond.selects RX4 yX4_skipBlanks yX4_skipBlanks, Cond.code yX4_skipBlanks cX4_skipBlanks 2 none, Cond.methodLink RX4 49 yX4_sign, Cond.instanceMethod yX4_sign, Cond.selects RX4 yX4_sign yX4_sign, Cond.code yX4_sign cX4_sign 1 (some .int), Cond.methodLink RX4 59 yX5_hasPlaces, Cond.methodLink RX4 65 yX5_get, Cond.methodLink RX4 45 yX4_readPeople, Cond.instanceMethod yX4_readPeople, Cond.selects RX4 yX4_readPeople yX4_readPeople, Cond.code yX4_readPeople cX4_readPeople 2 (some .boolean), Cond.methodLink RX4 72 Lib.Math.max.name, Cond.static Lib.Math.max.name, Cond.initialized "java/lang/Math", Cond.code Lib.Math.max.name Lib.Math.max.code 2 (some .int), Cond.fieldLink RX4 77 "ThreeThings$Island" "people" "I", Cond.methodLink RX4 69 yX4_figure, Cond.instanceMethod yX4_figure, Cond.selects RX4 yX4_figure yX4_figure]
def wsL_law_r12 : List Cond := [Cond.code yX4_figure cX4_figure 4 (some .int), Cond.methodLink RX4 53 yX4_readWork, Cond.instanceMethod yX4_readWork, Cond.selects RX4 yX4_readWork yX4_readWork, Cond.code yX4_readWork cX4_readWork 2 (some .boolean), Cond.fieldLink RX4 84 "ThreeThings$Island" "works" "I", Cond.fieldLink RX4 104 "ThreeThings$Island" "hour" "[I", Cond.fieldLink RX4 107 "ThreeThings$Island" "who" "[I", Cond.fieldLink RX4 110 "ThreeThings$Island" "wants" "[I", Cond.fieldLink RX4 116 "ThreeThings$Island" "worth" "[I", Cond.methodLink RX4 113 yX4_readWants, Cond.instanceMethod yX4_readWants, Cond.selects RX4 yX4_readWants yX4_readWants, Cond.code yX4_readWants cX4_readWants 4 (some .int), Cond.methodLink RX4 119 yX1_isThing, Cond.instanceMethod yX1_isThing, Cond.selects RX1 yX1_isThing yX1_isThing, Cond.code yX1_isThing cX1_isThing 2 (some .boolean), Cond.methodLink RX4 56 yX4_readThing, Cond.instanceMethod yX4_readThing, Cond.selects RX4 yX4_readThing yX4_readThing, Cond.code yX4_readThing cX4_readThing 4 (some .boolean), Cond.fieldLink RX4 87 "ThreeThings$Island" "things" "I", Cond.fieldLink RX4 90 "ThreeThings$Island" "bags" "I"]
def wsL_law_r13 : List Cond := [Cond.methodLink RX4 80 yX4_kindOf, Cond.static yX4_kindOf, Cond.code yX4_kindOf cX4_kindOf 1 (some .int), Cond.methodLink RX4 93 yX1_addThing, Cond.instanceMethod yX1_addThing, Cond.selects RX1 yX1_addThing yX1_addThing, Cond.code yX1_addThing cX1_addThing 3 none, Cond.methodLink RX1 58 yX1_weightOf, Cond.static yX1_weightOf, Cond.code yX1_weightOf cX1_weightOf 1 (some .int), Cond.methodLink RX1 62 yX1_roomOf, Cond.static yX1_roomOf, Cond.code yX1_roomOf cX1_roomOf 1 (some .int), Cond.methodLink RX4 97 yX1_isPerson, Cond.instanceMethod yX1_isPerson, Cond.selects RX1 yX1_isPerson yX1_isPerson, Cond.code yX1_isPerson cX1_isPerson 2 (some .boolean), Cond.methodLink RX4 101 yX1_weightOf, Cond.methodLink RL 41 yX10_island, Cond.instanceMethod yX10_island, Cond.selects RX10 yX10_island yX10_island, Cond.code yX10_island cX10_island 2 (some .int), Cond.fieldLink RX10 151 "ThreeThings$Reader" "draft" "LThreeThings$Island;", Cond.fieldLink RX10 163 "ThreeThings$Pairs" "count" "I"]
def wsL_law_r14 : List Cond := [Cond.fieldLink RX10 173 "ThreeThings$Island" "things" "I", Cond.methodLink RX10 154 yX1_become, Cond.instanceMethod yX1_become, Cond.selects RX1 yX1_become yX1_become, Cond.code yX1_become cX1_become 2 none, Cond.methodLink RX1 65 arraycopyName, Cond.native arraycopyName, Cond.static arraycopyName, Cond.initialized "java/lang/System", Cond.methodLink RX1 71 yX1_tallyWorks, Cond.instanceMethod yX1_tallyWorks, Cond.selects RX1 yX1_tallyWorks yX1_tallyWorks, Cond.code yX1_tallyWorks cX1_tallyWorks 4 none, Cond.methodLink RX1 74 yJ7_fill_53178, Cond.methodLink RX10 157 yX6_spoil, Cond.instanceMethod yX6_spoil, Cond.selects RX6 yX6_spoil yX6_spoil, Cond.code yX6_spoil cX6_spoil 1 none, Cond.fieldLink RX6 39 "ThreeThings$Search" "startLimit" "I", Cond.methodLink RX10 160 yX3_begin, Cond.instanceMethod yX3_begin, Cond.selects RX3 yX3_begin yX3_begin, Cond.code yX3_begin cX3_begin 1 none, Cond.fieldLink RX3 32 "ThreeThings$Island" "start" "[I"]
def wsL_law_r15 : List Cond := [Cond.methodLink RX3 37 arraycopyName, Cond.methodLink RX3 43 yX3_tally, Cond.instanceMethod yX3_tally, Cond.selects RX3 yX3_tally yX3_tally, Cond.code yX3_tally cX3_tally 3 none, Cond.fieldLink RX3 46 "ThreeThings$Island" "things" "I", Cond.fieldLink RX3 62 "ThreeThings$Island" "weight" "[I", Cond.methodLink RX3 56 yJ7_fill_53178, Cond.methodLink RX3 65 yX3_whom, Cond.instanceMethod yX3_whom, Cond.selects RX3 yX3_whom yX3_whom, Cond.code yX3_whom cX3_whom 3 (some .int), Cond.fieldLink RX3 69 "ThreeThings$Island" "bags" "I", Cond.fieldLink RX3 72 "ThreeThings$Island" "bag" "[I", Cond.methodLink RX10 167 yJ7_fill_53178, Cond.methodLink RL 107 yX10_may, Cond.instanceMethod yX10_may, Cond.selects RX10 yX10_may yX10_may, Cond.code yX10_may cX10_may 3 (some .int), Cond.methodLink RX10 234 yX1_isStep, Cond.instanceMethod yX1_isStep, Cond.selects RX1 yX1_isStep yX1_isStep, Cond.code yX1_isStep cX1_isStep 3 (some .boolean), Cond.methodLink RX1 84 yX1_isThing]
def wsL_law_r16 : List Cond := [Cond.methodLink RX1 87 yX1_isPlace, Cond.instanceMethod yX1_isPlace, Cond.selects RX1 yX1_isPlace yX1_isPlace, Cond.code yX1_isPlace cX1_isPlace 2 (some .boolean), Cond.methodLink RX1 80 yX1_isPerson, Cond.methodLink RX10 237 yX3_allows, Cond.instanceMethod yX3_allows, Cond.selects RX3 yX3_allows yX3_allows, Cond.code yX3_allows cX3_allows 3 (some .boolean), Cond.methodLink RX3 52 yX1_isStep, Cond.methodLink RX3 100 yX3_targets, Cond.instanceMethod yX3_targets, Cond.selects RX3 yX3_targets yX3_targets, Cond.code yX3_targets cX3_targets 5 (some .int), Cond.fieldLink RX3 75 "ThreeThings$Island" "people" "I", Cond.methodLink RX3 84 yX3_fits, Cond.instanceMethod yX3_fits, Cond.selects RX3 yX3_fits yX3_fits, Cond.code yX3_fits cX3_fits 3 (some .boolean), Cond.methodLink RX3 87 yX1_isLiving, Cond.instanceMethod yX1_isLiving, Cond.selects RX1 yX1_isLiving yX1_isLiving, Cond.code yX1_isLiving cX1_isLiving 2 (some .boolean), Cond.methodLink RX3 91 yX1_isBag]
def wsL_law_r17 : List Cond := [Cond.instanceMethod yX1_isBag, Cond.selects RX1 yX1_isBag yX1_isBag, Cond.code yX1_isBag cX1_isBag 2 (some .boolean), Cond.methodLink RX3 94 yX3_openBags, Cond.instanceMethod yX3_openBags, Cond.selects RX3 yX3_openBags yX3_openBags, Cond.code yX3_openBags cX3_openBags 5 (some .int), Cond.fieldLink RX3 97 "ThreeThings$Island" "room" "[I", Cond.methodLink RL 109 yX10_steps, Cond.instanceMethod yX10_steps, Cond.selects RX10 yX10_steps yX10_steps, Cond.code yX10_steps cX10_steps 5 (some .int), Cond.methodLink RX10 253 yX3_targets, Cond.methodLink RX10 213 yJ6_bitCount_0f7a4, Cond.static yJ6_bitCount_0f7a4, Cond.initialized RJ6, Cond.code yJ6_bitCount_0f7a4 cJ6_bitCount_0f7a4 1 (some .int), Cond.constant RJ6 265 (1431655765), Cond.constant RJ6 266 (858993459), Cond.constant RJ6 267 (252645135), Cond.methodLink RX10 256 yX10_lowest, Cond.static yX10_lowest, Cond.code yX10_lowest cX10_lowest 2 (some .int), Cond.methodLink RX10 131 yX9_tell]
def wsL_law_r18 : List Cond := [Cond.instanceMethod yX9_tell, Cond.selects RX9 yX9_tell yX9_tell, Cond.code yX9_tell cX9_tell 2 (some .int), Cond.fieldLink RX9 19 "ThreeThings$Told" "asked" "I", Cond.methodLink RL 83 yX10_asked, Cond.instanceMethod yX10_asked, Cond.selects RX10 yX10_asked yX10_asked, Cond.code yX10_asked cX10_asked 1 (some .int), Cond.fieldLink RX10 373 "ThreeThings$Told" "asked" "I", Cond.methodLink RL 112 yX10_digest, Cond.instanceMethod yX10_digest, Cond.selects RX10 yX10_digest yX10_digest, Cond.code yX10_digest cX10_digest 4 (some .long), Cond.constantLong RX10 400 (17), Cond.constantLong RX10 402 (31), Cond.fieldLink RX10 231 "ThreeThings$Places" "limit" "I", Cond.methodLink RX10 383 yX10_countOf, Cond.instanceMethod yX10_countOf, Cond.selects RX10 yX10_countOf yX10_countOf, Cond.code yX10_countOf cX10_countOf 2 (some .int), Cond.fieldLink RX10 271 "ThreeThings$Island" "people" "I", Cond.fieldLink RX10 386 "ThreeThings$Island" "works" "I", Cond.fieldLink RX10 389 "ThreeThings$Island" "bags" "I", Cond.methodLink RX10 392 yX5_there]
def wsL_law_r19 : List Cond := [Cond.instanceMethod yX5_there, Cond.selects RX5 yX5_there yX5_there, Cond.code yX5_there cX5_there 3 (some .int), Cond.methodLink RX10 404 yX10_mixIsland, Cond.instanceMethod yX10_mixIsland, Cond.selects RX10 yX10_mixIsland yX10_mixIsland, Cond.code yX10_mixIsland cX10_mixIsland 5 (some .long), Cond.methodLink RX10 179 yX10_ofThing, Cond.instanceMethod yX10_ofThing, Cond.selects RX10 yX10_ofThing yX10_ofThing, Cond.code yX10_ofThing cX10_ofThing 3 (some .int), Cond.fieldLink RX10 182 "ThreeThings$Island" "kind" "[I", Cond.fieldLink RX10 185 "ThreeThings$Places" "where" "[I", Cond.fieldLink RX10 188 "ThreeThings$Island" "weight" "[I", Cond.methodLink RX10 191 yX3_whom, Cond.methodLink RX10 221 yX1_ofWork, Cond.instanceMethod yX1_ofWork, Cond.selects RX1 yX1_ofWork yX1_ofWork, Cond.code yX1_ofWork cX1_ofWork 3 (some .int), Cond.methodLink RX1 100 yX1_isWork, Cond.instanceMethod yX1_isWork, Cond.selects RX1 yX1_isWork yX1_isWork, Cond.code yX1_isWork cX1_isWork 2 (some .boolean), Cond.methodLink RX10 408 yX10_mixSeen]
def wsL_law_r20 : List Cond := [Cond.instanceMethod yX10_mixSeen, Cond.selects RX10 yX10_mixSeen yX10_mixSeen, Cond.code yX10_mixSeen cX10_mixSeen 4 (some .long), Cond.methodLink RX10 259 yX2_firstOf, Cond.instanceMethod yX2_firstOf, Cond.selects RX2 yX2_firstOf yX2_firstOf, Cond.code yX2_firstOf cX2_firstOf 2 (some .int), Cond.fieldLink RX2 16 "ThreeThings$Pairs" "count" "I", Cond.methodLink RX10 262 yX2_secondOf, Cond.instanceMethod yX2_secondOf, Cond.selects RX2 yX2_secondOf yX2_secondOf, Cond.code yX2_secondOf cX2_secondOf 2 (some .int), Cond.methodLink RX10 411 yX10_mixKept, Cond.instanceMethod yX10_mixKept, Cond.selects RX10 yX10_mixKept yX10_mixKept, Cond.code yX10_mixKept cX10_mixKept 5 (some .long), Cond.methodLink RX10 280 yX3_decode, Cond.instanceMethod yX3_decode, Cond.selects RX3 yX3_decode yX3_decode, Cond.code yX3_decode cX3_decode 4 none, Cond.methodLink RX10 414 yX5_mix, Cond.instanceMethod yX5_mix, Cond.selects RX5 yX5_mix yX5_mix, Cond.code yX5_mix cX5_mix 7 (some .long)]
def wsL_law_r21 : List Cond := [Cond.constantLong RX5 51 (31), Cond.methodLink RX5 47 yX5_get, Cond.methodLink RL 87 yX10_thing, Cond.instanceMethod yX10_thing, Cond.selects RX10 yX10_thing yX10_thing, Cond.code yX10_thing cX10_thing 3 (some .int), Cond.methodLink RX10 176 yX1_isThing, Cond.methodLink RL 90 yL_tells, Cond.static yL_tells, Cond.code yL_tells cL_tells 2 (some .int), Cond.methodLink RL 116 yX10_count, Cond.instanceMethod yX10_count, Cond.selects RX10 yX10_count yX10_count, Cond.code yX10_count cX10_count 2 (some .int), Cond.methodLink RL 119 yX10_step, Cond.instanceMethod yX10_step, Cond.selects RX10 yX10_step yX10_step, Cond.code yX10_step cX10_step 3 (some .int), Cond.methodLink RX10 240 yX2_isFull, Cond.instanceMethod yX2_isFull, Cond.selects RX2 yX2_isFull yX2_isFull, Cond.code yX2_isFull cX2_isFull 1 (some .boolean), Cond.methodLink RX10 244 yX10_doStep, Cond.instanceMethod yX10_doStep]
def wsL_law_r22 : List Cond := [Cond.selects RX10 yX10_doStep yX10_doStep, Cond.code yX10_doStep cX10_doStep 3 none, Cond.methodLink RX10 247 yX2_add, Cond.instanceMethod yX2_add, Cond.selects RX2 yX2_add yX2_add, Cond.code yX2_add cX2_add 3 none, Cond.methodLink RX2 20 yX2_isFull, Cond.methodLink RX10 250 yX3_move, Cond.instanceMethod yX3_move, Cond.selects RX3 yX3_move yX3_move, Cond.code yX3_move cX3_move 3 none, Cond.methodLink RL 122 yX10_undo, Cond.instanceMethod yX10_undo, Cond.selects RX10 yX10_undo yX10_undo, Cond.code yX10_undo cX10_undo 4 (some .int), Cond.methodLink RL 125 yL_within, Cond.static yL_within, Cond.code yL_within cL_within 10 (some .boolean), Cond.methodLink RL 94 yX10_load, Cond.instanceMethod yX10_load, Cond.selects RX10 yX10_load yX10_load, Cond.code yX10_load cX10_load 2 (some .int), Cond.methodLink RX10 224 yX1_isPerson, Cond.methodLink RX10 210 yX3_heldBy]
def wsL_law_r23 : List Cond := [Cond.instanceMethod yX3_heldBy, Cond.selects RX3 yX3_heldBy yX3_heldBy, Cond.code yX3_heldBy cX3_heldBy 2 (some .int), Cond.methodLink RX10 201 yX3_loadOf, Cond.instanceMethod yX3_loadOf, Cond.selects RX3 yX3_loadOf yX3_loadOf, Cond.code yX3_loadOf cX3_loadOf 2 (some .int), Cond.methodLink RL 129 yX10_keep, Cond.instanceMethod yX10_keep, Cond.selects RX10 yX10_keep yX10_keep, Cond.code yX10_keep cX10_keep 2 (some .int), Cond.methodLink RX10 268 yX10_isKeep, Cond.static yX10_isKeep, Cond.code yX10_isKeep cX10_isKeep 1 (some .boolean), Cond.methodLink RX10 274 yX3_code, Cond.instanceMethod yX3_code, Cond.selects RX3 yX3_code yX3_code, Cond.code yX3_code cX3_code 3 (some .int), Cond.methodLink RL 132 yX10_image, Cond.instanceMethod yX10_image, Cond.selects RX10 yX10_image yX10_image, Cond.code yX10_image cX10_image 3 (some .int), Cond.methodLink RL 135 yX10_all, Cond.instanceMethod yX10_all]
def wsL_law_r24 : List Cond := [Cond.selects RX10 yX10_all yX10_all, Cond.code yX10_all cX10_all 2 (some .int), Cond.methodLink RX10 310 yX6_begin, Cond.instanceMethod yX6_begin, Cond.selects RX6 yX6_begin yX6_begin, Cond.code yX6_begin cX6_begin 3 none, Cond.fieldLink RX6 43 "ThreeThings$Search" "startCode" "I", Cond.fieldLink RX6 46 "ThreeThings$Search" "expanded" "I", Cond.fieldLink RX6 49 "ThreeThings$Search" "nearCount" "I", Cond.fieldLink RX6 52 "ThreeThings$Places" "limit" "I", Cond.methodLink RX6 55 yX7_begin, Cond.instanceMethod yX7_begin, Cond.selects RX7 yX7_begin yX7_begin, Cond.code yX7_begin cX7_begin 3 none, Cond.fieldLink RX7 27 "ThreeThings$States" "count" "I", Cond.methodLink RX7 31 yX7_reach, Cond.instanceMethod yX7_reach, Cond.selects RX7 yX7_reach yX7_reach, Cond.code yX7_reach cX7_reach 5 (some .int), Cond.methodLink RX10 321 yX6_expandTo, Cond.instanceMethod yX6_expandTo, Cond.selects RX6 yX6_expandTo yX6_expandTo, Cond.code yX6_expandTo cX6_expandTo 3 none, Cond.fieldLink RX6 61 "ThreeThings$States" "count" "I"]
def wsL_law_r25 : List Cond := [Cond.fieldLink RX6 64 "ThreeThings$States" "depth" "[I", Cond.methodLink RX6 67 yX6_expand, Cond.instanceMethod yX6_expand, Cond.selects RX6 yX6_expand yX6_expand, Cond.code yX6_expand cX6_expand 6 none, Cond.fieldLink RX6 70 "ThreeThings$States" "code" "[I", Cond.fieldLink RX6 76 "ThreeThings$Island" "things" "I", Cond.fieldLink RX6 85 "ThreeThings$Places" "where" "[I", Cond.methodLink RX6 73 yX3_decode, Cond.methodLink RX6 81 yX3_targets, Cond.methodLink RX6 91 yX6_meet, Cond.instanceMethod yX6_meet, Cond.selects RX6 yX6_meet yX6_meet, Cond.code yX6_meet cX6_meet 5 none, Cond.methodLink RX6 95 yX7_reach, Cond.methodLink RX10 324 yX6_found, Cond.instanceMethod yX6_found, Cond.selects RX6 yX6_found yX6_found, Cond.code yX6_found cX6_found 1 (some .int), Cond.methodLink RX10 307 yX6_depthOf, Cond.instanceMethod yX6_depthOf, Cond.selects RX6 yX6_depthOf yX6_depthOf, Cond.code yX6_depthOf cX6_depthOf 2 (some .int), Cond.methodLink RX6 99 yX6_isFound]
def wsL_law_r26 : List Cond := [Cond.instanceMethod yX6_isFound, Cond.selects RX6 yX6_isFound yX6_isFound, Cond.code yX6_isFound cX6_isFound 2 (some .boolean), Cond.methodLink RL 138 yL_wanted, Cond.static yL_wanted, Cond.code yL_wanted cL_wanted 10 (some .boolean), Cond.methodLink RL 171 yX10_row, Cond.instanceMethod yX10_row, Cond.selects RX10 yX10_row yX10_row, Cond.code yX10_row cX10_row 3 (some .int), Cond.methodLink RL 174 yX10_lay, Cond.instanceMethod yX10_lay, Cond.selects RX10 yX10_lay yX10_lay, Cond.code yX10_lay cX10_lay 5 (some .int), Cond.methodLink RL 177 yX10_fewest, Cond.instanceMethod yX10_fewest, Cond.selects RX10 yX10_fewest yX10_fewest, Cond.code yX10_fewest cX10_fewest 4 (some .int), Cond.methodLink RX10 298 yX10_wanted, Cond.instanceMethod yX10_wanted, Cond.selects RX10 yX10_wanted yX10_wanted, Cond.code yX10_wanted cX10_wanted 4 (some .int), Cond.methodLink RX10 141 yX5_sizeOf, Cond.methodLink RX10 312 yX6_want]
def wsL_law_r27 : List Cond := [Cond.instanceMethod yX6_want, Cond.selects RX6 yX6_want yX6_want, Cond.code yX6_want cX6_want 3 none, Cond.methodLink RX6 109 yX1_isThing, Cond.methodLink RX10 301 yX6_firstAsWanted, Cond.instanceMethod yX6_firstAsWanted, Cond.selects RX6 yX6_firstAsWanted yX6_firstAsWanted, Cond.code yX6_firstAsWanted cX6_firstAsWanted 2 (some .int), Cond.methodLink RX6 112 yX6_has, Cond.instanceMethod yX6_has, Cond.selects RX6 yX6_has yX6_has, Cond.code yX6_has cX6_has 3 (some .boolean), Cond.methodLink RX6 115 yX6_asWanted, Cond.instanceMethod yX6_asWanted, Cond.selects RX6 yX6_asWanted yX6_asWanted, Cond.code yX6_asWanted cX6_asWanted 3 (some .boolean), Cond.methodLink RX6 118 yX3_whom, Cond.methodLink RX10 304 yX6_asNear, Cond.instanceMethod yX6_asNear, Cond.selects RX6 yX6_asNear yX6_asNear, Cond.code yX6_asNear cX6_asNear 4 (some .int), Cond.methodLink RL 180 yX10_way, Cond.instanceMethod yX10_way, Cond.selects RX10 yX10_way yX10_way]
def wsL_law_r28 : List Cond := [Cond.code yX10_way cX10_way 7 (some .int), Cond.methodLink RX10 315 yX6_stepTo, Cond.instanceMethod yX6_stepTo, Cond.selects RX6 yX6_stepTo yX6_stepTo, Cond.code yX6_stepTo cX6_stepTo 2 (some .int), Cond.fieldLink RX6 103 "ThreeThings$States" "by" "[I", Cond.methodLink RX10 318 yX6_stateBefore, Cond.instanceMethod yX6_stateBefore, Cond.selects RX6 yX6_stateBefore yX6_stateBefore, Cond.code yX6_stateBefore cX6_stateBefore 2 (some .int), Cond.fieldLink RX6 106 "ThreeThings$States" "before" "[I", Cond.methodLink RL 183 yX10_at, Cond.instanceMethod yX10_at, Cond.selects RX10 yX10_at yX10_at, Cond.code yX10_at cX10_at 3 (some .int), Cond.methodLink RL 168 yX10_on, Cond.instanceMethod yX10_on, Cond.selects RX10 yX10_on yX10_on, Cond.code yX10_on cX10_on 2 (some .int), Cond.methodLink RX10 277 yX10_goOnFrom, Cond.instanceMethod yX10_goOnFrom, Cond.selects RX10 yX10_goOnFrom yX10_goOnFrom, Cond.code yX10_goOnFrom cX10_goOnFrom 3 none, Cond.methodLink RL 186 yX10_does]
def wsL_law_r29 : List Cond := [Cond.instanceMethod yX10_does, Cond.selects RX10 yX10_does yX10_does, Cond.code yX10_does cX10_does 5 (some .int), Cond.methodLink RX10 265 yX1_isNumber, Cond.instanceMethod yX1_isNumber, Cond.selects RX1 yX1_isNumber yX1_isNumber, Cond.code yX1_isNumber cX1_isNumber 2 (some .boolean), Cond.methodLink RX1 90 yX1_isStep, Cond.methodLink RL 142 yX10_gone, Cond.instanceMethod yX10_gone, Cond.selects RX10 yX10_gone yX10_gone, Cond.code yX10_gone cX10_gone 4 (some .int), Cond.methodLink RX10 367 yX1_isPlace, Cond.methodLink RX10 370 yX3_canBe, Cond.instanceMethod yX3_canBe, Cond.selects RX3 yX3_canBe yX3_canBe, Cond.code yX3_canBe cX3_canBe 2 (some .boolean), Cond.methodLink RX3 103 yX3_heaviest, Cond.instanceMethod yX3_heaviest, Cond.selects RX3 yX3_heaviest yX3_heaviest, Cond.code yX3_heaviest cX3_heaviest 3 (some .int), Cond.methodLink RX3 78 Lib.Math.max.name, Cond.methodLink RL 145 yX10_till, Cond.instanceMethod yX10_till]
def wsL_law_r30 : List Cond := [Cond.selects RX10 yX10_till yX10_till, Cond.code yX10_till cX10_till 3 (some .int), Cond.methodLink RX10 218 yX1_isWork, Cond.methodLink RX10 327 yX6_firstDoing, Cond.instanceMethod yX6_firstDoing, Cond.selects RX6 yX6_firstDoing yX6_firstDoing, Cond.code yX6_firstDoing cX6_firstDoing 3 (some .int), Cond.methodLink RX6 121 yX3_doable, Cond.instanceMethod yX3_doable, Cond.selects RX3 yX3_doable yX3_doable, Cond.code yX3_doable cX3_doable 3 (some .int), Cond.fieldLink RX3 107 "ThreeThings$Island" "works" "I", Cond.fieldLink RX3 110 "ThreeThings$Island" "wants" "[I", Cond.fieldLink RX3 113 "ThreeThings$Island" "who" "[I", Cond.methodLink RL 148 yX10_can, Cond.instanceMethod yX10_can, Cond.selects RX10 yX10_can yX10_can, Cond.code yX10_can cX10_can 2 (some .int), Cond.methodLink RX10 283 yX3_doable, Cond.methodLink RX10 286 yX1_worthOf, Cond.instanceMethod yX1_worthOf, Cond.selects RX1 yX1_worthOf yX1_worthOf, Cond.code yX1_worthOf cX1_worthOf 2 (some .int), Cond.methodLink RL 151 yX10_most]
def wsL_law_r31 : List Cond := [Cond.instanceMethod yX10_most, Cond.selects RX10 yX10_most yX10_most, Cond.code yX10_most cX10_most 2 (some .int), Cond.methodLink RX10 330 yX1_worthOfAll, Cond.instanceMethod yX1_worthOfAll, Cond.selects RX1 yX1_worthOfAll yX1_worthOfAll, Cond.code yX1_worthOfAll cX1_worthOfAll 1 (some .int), Cond.methodLink RX1 103 yX1_worthOf, Cond.methodLink RX10 333 yX0_best, Cond.instanceMethod yX0_best, Cond.selects RX0 yX0_best yX0_best, Cond.code yX0_best cX0_best 8 (some .int), Cond.fieldLink RX0 61 "ThreeThings$Island" "byHour" "[I", Cond.methodLink RX0 67 Lib.Math.max.name, Cond.methodLink RX0 38 yX1_lastHour, Cond.instanceMethod yX1_lastHour, Cond.selects RX1 yX1_lastHour yX1_lastHour, Cond.code yX1_lastHour cX1_lastHour 3 (some .int), Cond.methodLink RX1 106 Lib.Math.max.name, Cond.methodLink RX0 44 yX6_begin, Cond.methodLink RX0 50 yX6_expandTo, Cond.methodLink RX0 54 yX0_takeOn, Cond.instanceMethod yX0_takeOn, Cond.selects RX0 yX0_takeOn yX0_takeOn]
def wsL_law_r32 : List Cond := [Cond.code yX0_takeOn cX0_takeOn 4 (some .int), Cond.methodLink RX0 72 yX6_found, Cond.methodLink RX0 75 yX6_depthOf, Cond.methodLink RX0 79 yX6_codeOf, Cond.instanceMethod yX6_codeOf, Cond.selects RX6 yX6_codeOf yX6_codeOf, Cond.code yX6_codeOf cX6_codeOf 2 (some .int), Cond.methodLink RX0 82 yX3_decode, Cond.methodLink RX0 85 yX3_doable, Cond.methodLink RX0 58 yX0_spread, Cond.instanceMethod yX0_spread, Cond.selects RX0 yX0_spread yX0_spread, Cond.code yX0_spread cX0_spread 7 none, Cond.methodLink RX0 87 arraycopyName, Cond.fieldLink RX0 93 "ThreeThings$Search" "nearEnd" "[I", Cond.fieldLink RX0 96 "ThreeThings$Search" "near" "[I", Cond.methodLink RX0 64 yX0_gain, Cond.instanceMethod yX0_gain, Cond.selects RX0 yX0_gain yX0_gain, Cond.code yX0_gain cX0_gain 4 none, Cond.methodLink RX0 99 yX1_worthOf, Cond.methodLink RL 154 yX10_hand, Cond.instanceMethod yX10_hand, Cond.selects RX10 yX10_hand yX10_hand]
def wsL_law_r33 : List Cond := [Cond.code yX10_hand cX10_hand 3 (some .int), Cond.methodLink RL 157 yX10_creed, Cond.instanceMethod yX10_creed, Cond.selects RX10 yX10_creed yX10_creed, Cond.code yX10_creed cX10_creed 3 (some .int), Cond.methodLink RX10 227 yX3_heaviest, Cond.methodLink RL 160 yL_thefts, Cond.static yL_thefts, Cond.code yL_thefts cL_thefts 10 (some .boolean), Cond.methodLink RL 189 yX10_thefts, Cond.instanceMethod yX10_thefts, Cond.selects RX10 yX10_thefts yX10_thefts, Cond.code yX10_thefts cX10_thefts 3 (some .int), Cond.methodLink RX10 341 yX8_within, Cond.instanceMethod yX8_within, Cond.selects RX8 yX8_within yX8_within, Cond.code yX8_within cX8_within 6 (some .int), Cond.fieldLink RX8 36 "ThreeThings$States" "count" "I", Cond.fieldLink RX8 42 "ThreeThings$States" "code" "[I", Cond.fieldLink RX8 54 "ThreeThings$States" "depth" "[I", Cond.methodLink RX8 32 yX8_begin, Cond.instanceMethod yX8_begin, Cond.selects RX8 yX8_begin yX8_begin, Cond.code yX8_begin cX8_begin 2 none]
def wsL_law_r34 : List Cond := [Cond.fieldLink RX8 69 "ThreeThings$Places" "limit" "I", Cond.methodLink RX8 64 yX6_spoil, Cond.methodLink RX8 72 yX3_code, Cond.methodLink RX8 75 yX7_begin, Cond.methodLink RX8 46 yX3_decode, Cond.methodLink RX8 61 yX3_heldBy, Cond.methodLink RX8 57 yX8_expand, Cond.instanceMethod yX8_expand, Cond.selects RX8 yX8_expand yX8_expand, Cond.code yX8_expand cX8_expand 6 none, Cond.fieldLink RX8 77 "ThreeThings$Island" "things" "I", Cond.fieldLink RX8 82 "ThreeThings$Places" "where" "[I", Cond.fieldLink RX8 85 "ThreeThings$Island" "people" "I", Cond.methodLink RX8 88 yX8_give, Cond.instanceMethod yX8_give, Cond.selects RX8 yX8_give yX8_give, Cond.code yX8_give cX8_give 7 none, Cond.methodLink RX8 107 yX3_droppedFor, Cond.instanceMethod yX3_droppedFor, Cond.selects RX3 yX3_droppedFor yX3_droppedFor, Cond.code yX3_droppedFor cX3_droppedFor 6 (some .int), Cond.methodLink RX3 116 yX1_isThing, Cond.methodLink RX3 119 yX1_isPerson, Cond.methodLink RX8 96 yX8_shift]
def wsL_law_r35 : List Cond := [Cond.instanceMethod yX8_shift, Cond.selects RX8 yX8_shift yX8_shift, Cond.code yX8_shift cX8_shift 3 (some .int), Cond.methodLink RX8 100 yX8_reach, Cond.instanceMethod yX8_reach, Cond.selects RX8 yX8_reach yX8_reach, Cond.code yX8_reach cX8_reach 3 none, Cond.methodLink RX8 113 yX7_reach, Cond.methodLink RX8 92 yX1_isLiving, Cond.methodLink RL 191 yX10_theft, Cond.instanceMethod yX10_theft, Cond.selects RX10 yX10_theft yX10_theft, Cond.code yX10_theft cX10_theft 3 (some .int), Cond.methodLink RX10 337 yX8_fewestFor, Cond.instanceMethod yX8_fewestFor, Cond.selects RX8 yX8_fewestFor yX8_fewestFor, Cond.code yX8_fewestFor cX8_fewestFor 5 (some .int), Cond.methodLink RX8 50 yX3_whom, Cond.methodLink RL 194 yX10_drops, Cond.instanceMethod yX10_drops, Cond.selects RX10 yX10_drops yX10_drops, Cond.code yX10_drops cX10_drops 7 (some .int), Cond.methodLink RX10 344 yX3_droppedFor, Cond.methodLink RL 197 yX10_beside]
def wsL_law_r36 : List Cond := [Cond.instanceMethod yX10_beside, Cond.selects RX10 yX10_beside yX10_beside, Cond.code yX10_beside cX10_beside 3 (some .int), Cond.methodLink RX10 347 yX10_needs, Cond.instanceMethod yX10_needs, Cond.selects RX10 yX10_needs yX10_needs, Cond.code yX10_needs cX10_needs 5 (some .int), Cond.methodLink RX10 350 yX1_wantedBy, Cond.instanceMethod yX1_wantedBy, Cond.selects RX1 yX1_wantedBy yX1_wantedBy, Cond.code yX1_wantedBy cX1_wantedBy 4 (some .int), Cond.methodLink RL 200 yX10_pair, Cond.instanceMethod yX10_pair, Cond.selects RX10 yX10_pair yX10_pair, Cond.code yX10_pair cX10_pair 7 (some .int), Cond.methodLink RX10 353 Lib.Math.max.name, Cond.methodLink RL 164 yL_drowned, Cond.static yL_drowned, Cond.code yL_drowned cL_drowned 13 (some .boolean), Cond.methodLink RL 203 yX10_drowned, Cond.instanceMethod yX10_drowned, Cond.selects RX10 yX10_drowned yX10_drowned, Cond.code yX10_drowned cX10_drowned 4 (some .int), Cond.methodLink RX10 358 yX10_canHaveHad]
def wsL_law_r37 : List Cond := [Cond.instanceMethod yX10_canHaveHad, Cond.selects RX10 yX10_canHaveHad yX10_canHaveHad, Cond.code yX10_canHaveHad cX10_canHaveHad 5 (some .boolean), Cond.fieldLink RX10 361 "ThreeThings$Island" "wants" "[I", Cond.methodLink RL 205 yX10_saw, Cond.instanceMethod yX10_saw, Cond.selects RX10 yX10_saw yX10_saw, Cond.code yX10_saw cX10_saw 3 (some .int), Cond.methodLink RL 208 yX10_odds, Cond.instanceMethod yX10_odds, Cond.selects RX10 yX10_odds yX10_odds, Cond.code yX10_odds cX10_odds 5 (some .int), Cond.methodLink RX10 364 yX9_tellFraction, Cond.instanceMethod yX9_tellFraction, Cond.selects RX9 yX9_tellFraction yX9_tellFraction, Cond.code yX9_tellFraction cX9_tellFraction 7 none, Cond.fieldLink RX9 26 "ThreeThings$Told" "upper" "J", Cond.methodLink RL 211 yX10_upper, Cond.instanceMethod yX10_upper, Cond.selects RX10 yX10_upper yX10_upper, Cond.code yX10_upper cX10_upper 1 (some .long), Cond.fieldLink RX10 376 "ThreeThings$Told" "upper" "J", Cond.methodLink RL 214 yX10_lower, Cond.instanceMethod yX10_lower]
def wsL_law_r38 : List Cond := [Cond.selects RX10 yX10_lower yX10_lower, Cond.code yX10_lower cX10_lower 1 (some .long), Cond.fieldLink RX10 380 "ThreeThings$Told" "lower" "J", Cond.methodLink RL 217 yX10_forget, Cond.instanceMethod yX10_forget, Cond.selects RX10 yX10_forget yX10_forget, Cond.code yX10_forget cX10_forget 3 (some .int)]
def wsL_law : List Cond := (wsL_law_r1 ++ (wsL_law_r2 ++ (wsL_law_r3 ++ (wsL_law_r4 ++ (wsL_law_r5 ++ (wsL_law_r6 ++ (wsL_law_r7 ++ (wsL_law_r8 ++ (wsL_law_r9 ++ (wsL_law_r10 ++ (wsL_law_r11 ++ (wsL_law_r12 ++ (wsL_law_r13 ++ (wsL_law_r14 ++ (wsL_law_r15 ++ (wsL_law_r16 ++ (wsL_law_r17 ++ (wsL_law_r18 ++ (wsL_law_r19 ++ (wsL_law_r20 ++ (wsL_law_r21 ++ (wsL_law_r22 ++ (wsL_law_r23 ++ (wsL_law_r24 ++ (wsL_law_r25 ++ (wsL_law_r26 ++ (wsL_law_r27 ++ (wsL_law_r28 ++ (wsL_law_r29 ++ (wsL_law_r30 ++ (wsL_law_r31 ++ (wsL_law_r32 ++ (wsL_law_r33 ++ (wsL_law_r34 ++ (wsL_law_r35 ++ (wsL_law_r36 ++ (wsL_law_r37 ++ wsL_law_r38))))))))))))))))))))))))))))))))))))) ++ wsX100 ++ wsX90 ++ wsX50 ++ wsX40 ++ wsX10 ++ wsX30 ++ wsX20 ++ wsX70 ++ wsX60 ++ wsX00 ++ wsX80 ++ ([] : List Cond)
theorem inlX0 : ∀ w ∈ wsX00, w ∈ wsL_law := fun _ h => List.mem_append_left _ (List.mem_append_left _ (List.mem_append_right _ h))
theorem inlX1 : ∀ w ∈ wsX10, w ∈ wsL_law := fun _ h => List.mem_append_left _ (List.mem_append_left _ (List.mem_append_left _ (List.mem_append_left _ (List.mem_append_left _ (List.mem_append_left _ (List.mem_append_left _ (List.mem_append_right _ h)))))))
theorem inlX2 : ∀ w ∈ wsX20, w ∈ wsL_law := fun _ h => List.mem_append_left _ (List.mem_append_left _ (List.mem_append_left _ (List.mem_append_left _ (List.mem_append_left _ (List.mem_append_right _ h)))))
theorem inlX3 : ∀ w ∈ wsX30, w ∈ wsL_law := fun _ h => List.mem_append_left _ (List.mem_append_left _ (List.mem_append_left _ (List.mem_append_left _ (List.mem_append_left _ (List.mem_append_left _ (List.mem_append_right _ h))))))
theorem inlX4 : ∀ w ∈ wsX40, w ∈ wsL_law := fun _ h => List.mem_append_left _ (List.mem_append_left _ (List.mem_append_left _ (List.mem_append_left _ (List.mem_append_left _ (List.mem_append_left _ (List.mem_append_left _ (List.mem_append_left _ (List.mem_append_right _ h))))))))
theorem inlX5 : ∀ w ∈ wsX50, w ∈ wsL_law := fun _ h => List.mem_append_left _ (List.mem_append_left _ (List.mem_append_left _ (List.mem_append_left _ (List.mem_append_left _ (List.mem_append_left _ (List.mem_append_left _ (List.mem_append_left _ (List.mem_append_left _ (List.mem_append_right _ h)))))))))
theorem inlX6 : ∀ w ∈ wsX60, w ∈ wsL_law := fun _ h => List.mem_append_left _ (List.mem_append_left _ (List.mem_append_left _ (List.mem_append_right _ h)))
theorem inlX7 : ∀ w ∈ wsX70, w ∈ wsL_law := fun _ h => List.mem_append_left _ (List.mem_append_left _ (List.mem_append_left _ (List.mem_append_left _ (List.mem_append_right _ h))))
theorem inlX8 : ∀ w ∈ wsX80, w ∈ wsL_law := fun _ h => List.mem_append_left _ (List.mem_append_right _ h)
theorem inlX9 : ∀ w ∈ wsX90, w ∈ wsL_law := fun _ h => List.mem_append_left _ (List.mem_append_left _ (List.mem_append_left _ (List.mem_append_left _ (List.mem_append_left _ (List.mem_append_left _ (List.mem_append_left _ (List.mem_append_left _ (List.mem_append_left _ (List.mem_append_left _ (List.mem_append_right _ h))))))))))
theorem inlX10 : ∀ w ∈ wsX100, w ∈ wsL_law := fun _ h => List.mem_append_left _ (List.mem_append_left _ (List.mem_append_left _ (List.mem_append_left _ (List.mem_append_left _ (List.mem_append_left _ (List.mem_append_left _ (List.mem_append_left _ (List.mem_append_left _ (List.mem_append_left _ (List.mem_append_left _ (List.mem_append_right _ h)))))))))))
theorem inJ6 : ∀ w ∈ wsJ60, w ∈ lw_tbl := by decide +kernel
theorem inJ9 : ∀ w ∈ wsJ90, w ∈ lw_tbl := by decide +kernel
theorem inJ10 : ∀ w ∈ wsJ100, w ∈ lw_tbl := by decide +kernel
theorem inJ7 : ∀ w ∈ wsJ70, w ∈ lw_tbl := by decide +kernel
abbrev vwCl : List vw_C := [(RX0, TX0, 6), (RX1, TX1, 15), (RX2, TX2, 3), (RX3, TX3, 6), (RX4, TX4, 5), (RX5, TX5, 3), (RX6, TX6, 10), (RX7, TX7, 6), (RX8, TX8, 4), (RX9, TX9, 5), (RX10, TX10, 14)]
