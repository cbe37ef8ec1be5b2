/-! ===== BEGIN words of one list among another's, by their places ===== -/
theorem goodIn_r {big : List Cond} (ws : List Cond) (ps : List Nat) (hp : ws = ps.filterMap (fun i => big[i]?)) (h : ws.all goodWord = true) : GoodIn big ws := by
  intro w hw
  have h1 := List.all_eq_true.mp h w hw
  rw [hp] at hw
  obtain ⟨i, -, hi⟩ := List.mem_filterMap.mp hw
  have hm : w ∈ big := by first | exact List.mem_of_getElem? hi | exact List.getElem?_mem hi
  exact ⟨hm, good_of_word h1⟩
theorem goodIn_app {big a b : List Cond} (ha : GoodIn big a) (hb : GoodIn big b) : GoodIn big (a ++ b) := fun w h => (List.mem_append.mp h).elim (ha w) (hb w)
theorem goodIn_ca {big a b : List Cond} {c : Cond} (ha : GoodIn big (c :: a)) (hb : GoodIn big b) : GoodIn big (c :: (a ++ b)) := fun w h => (List.mem_cons.mp h).elim (fun e => ha w (List.mem_cons.mpr (Or.inl e))) (fun h => (List.mem_append.mp h).elim (fun h => ha w (List.mem_cons.mpr (Or.inr h))) (hb w))
theorem goodIn_sub {big ws : List Cond} (hm : ∀ w ∈ ws, w ∈ big) (h : ws.all goodWord = true) : GoodIn big ws := fun w hw => ⟨hm w hw, good_of_word (List.all_eq_true.mp h w hw)⟩
/-! ===== END ===== -/

/-! ===== BEGIN printed: names, fields, word lists, decode rows ===== -/
def RX0 : String := "NightDots$Act"
def TX0 : u_T := fun k => match k with
  | 0 => ("NightDots$Act", "path", "I", false)
  | 1 => ("NightDots$Act", "born", "Z", false)
  | 2 => ("NightDots$Act", "swallowed", "I", false)
  | _ => ("NightDots$Act", "before", "LNightDots$Row;", true)
def tyX0 : Nat → FieldType := fun k => match k with
  | 0 => .int
  | 1 => .boolean
  | 2 => .int
  | _ => .object "NightDots$Row"
abbrev wsX00 : List Cond := u_ws RX0 TX0 4
theorem nmX0 : ∀ a, a < 4 → ∀ b, b < 4 → a ≠ b → (TX0 a).2.1 ≠ (TX0 b).2.1 := by decide +kernel
theorem tyX0_ok : ∀ k, k < 4 → parseFieldDescriptor (TX0 k).2.2.1 = some (tyX0 k) := by decide +kernel
abbrev cX0_init : ByteArray := prog_2_method_1_code
def yX0_init : MethodName := ⟨RX0, "<init>", "()V"⟩
def RX1 : String := "NightDots$Acts"
def TX1 : u_T := fun k => match k with
  | 0 => ("NightDots$Acts", "ring", "[LNightDots$Act;", true)
  | 1 => ("NightDots$Acts", "next", "I", false)
  | _ => ("NightDots$Acts", "kept", "I", false)
def tyX1 : Nat → FieldType := fun k => match k with
  | 0 => .array (.object "NightDots$Act")
  | 1 => .int
  | _ => .int
abbrev wsX10 : List Cond := u_ws RX1 TX1 3
theorem nmX1 : ∀ a, a < 3 → ∀ b, b < 3 → a ≠ b → (TX1 a).2.1 ≠ (TX1 b).2.1 := by decide +kernel
theorem tyX1_ok : ∀ k, k < 3 → parseFieldDescriptor (TX1 k).2.2.1 = some (tyX1 k) := by decide +kernel
abbrev cX1_init : ByteArray := prog_3_method_1_code
def yX1_init : MethodName := ⟨RX1, "<init>", "()V"⟩
abbrev cX1_keep : ByteArray := prog_3_method_2_code
def yX1_keep : MethodName := ⟨RX1, "keep", "(ILNightDots$Row;)LNightDots$Act;"⟩
abbrev cX1_takeLatest : ByteArray := prog_3_method_3_code
def yX1_takeLatest : MethodName := ⟨RX1, "takeLatest", "()LNightDots$Act;"⟩
abbrev cX1_forgetAll : ByteArray := prog_3_method_4_code
def yX1_forgetAll : MethodName := ⟨RX1, "forgetAll", "()V"⟩
def RX2 : String := "NightDots$BitList"
def TX2 : u_T := fun k => match k with
  | 0 => ("NightDots$BitList", "sky", "LNightDots$Sky;", true)
  | 1 => ("NightDots$BitList", "pace", "I", false)
  | 2 => ("NightDots$BitList", "first", "I", false)
  | _ => ("NightDots$BitList", "second", "I", false)
def tyX2 : Nat → FieldType := fun k => match k with
  | 0 => .object "NightDots$Sky"
  | 1 => .int
  | 2 => .int
  | _ => .int
abbrev wsX20 : List Cond := u_ws RX2 TX2 4
theorem nmX2 : ∀ a, a < 4 → ∀ b, b < 4 → a ≠ b → (TX2 a).2.1 ≠ (TX2 b).2.1 := by decide +kernel
theorem tyX2_ok : ∀ k, k < 4 → parseFieldDescriptor (TX2 k).2.2.1 = some (tyX2 k) := by decide +kernel
abbrev cX2_init : ByteArray := prog_4_method_1_code
def yX2_init : MethodName := ⟨RX2, "<init>", "(LNightDots$Sky;)V"⟩
abbrev cX2_isBit : ByteArray := prog_4_method_2_code
def yX2_isBit : MethodName := ⟨RX2, "isBit", "(II)Z"⟩
abbrev cX2_total : ByteArray := prog_4_method_3_code
def yX2_total : MethodName := ⟨RX2, "total", "()I"⟩
abbrev cX2_seek : ByteArray := prog_4_method_4_code
def yX2_seek : MethodName := ⟨RX2, "seek", "(I)Z"⟩
def RX3 : String := "NightDots$Line"
def TX3 : u_T := fun k => match k with
  | 0 => ("NightDots$Line", "dots", "J", false)
  | 1 => ("NightDots$Line", "hours", "J", false)
  | 2 => ("NightDots$Line", "places", "J", false)
  | 3 => ("NightDots$Line", "speedTop", "J", false)
  | _ => ("NightDots$Line", "speedBelow", "J", false)
def tyX3 : Nat → FieldType := fun k => match k with
  | 0 => .long
  | 1 => .long
  | 2 => .long
  | 3 => .long
  | _ => .long
abbrev wsX30 : List Cond := u_ws RX3 TX3 5
theorem nmX3 : ∀ a, a < 5 → ∀ b, b < 5 → a ≠ b → (TX3 a).2.1 ≠ (TX3 b).2.1 := by decide +kernel
theorem tyX3_ok : ∀ k, k < 5 → parseFieldDescriptor (TX3 k).2.2.1 = some (tyX3 k) := by decide +kernel
abbrev cX3_init : ByteArray := prog_5_method_1_code
def yX3_init : MethodName := ⟨RX3, "<init>", "()V"⟩
abbrev cX3_through : ByteArray := prog_5_method_2_code
def yX3_through : MethodName := ⟨RX3, "through", "(LNightDots$Sky;LNightDots$Row;I)Z"⟩
abbrev cX3_placeTop : ByteArray := prog_5_method_3_code
def yX3_placeTop : MethodName := ⟨RX3, "placeTop", "()J"⟩
abbrev cX3_placeBelow : ByteArray := prog_5_method_4_code
def yX3_placeBelow : MethodName := ⟨RX3, "placeBelow", "()J"⟩
abbrev cX3_missTop : ByteArray := prog_5_method_5_code
def yX3_missTop : MethodName := ⟨RX3, "missTop", "(JJ)J"⟩
abbrev cX3_reduced : ByteArray := prog_5_method_6_code
def yX3_reduced : MethodName := ⟨RX3, "reduced", "(JJI)J"⟩
abbrev cX3_commonDivisor : ByteArray := prog_5_method_7_code
def yX3_commonDivisor : MethodName := ⟨RX3, "commonDivisor", "(JJ)J"⟩
def RX4 : String := "NightDots$Net"
def TX4 : u_T := fun k => match k with
  | 0 => ("NightDots$Net", "sky", "LNightDots$Sky;", true)
  | 1 => ("NightDots$Net", "grid", "I", false)
  | 2 => ("NightDots$Net", "end", "I", false)
  | 3 => ("NightDots$Net", "least", "I", false)
  | _ => ("NightDots$Net", "greatest", "I", false)
def tyX4 : Nat → FieldType := fun k => match k with
  | 0 => .object "NightDots$Sky"
  | 1 => .int
  | 2 => .int
  | 3 => .int
  | _ => .int
abbrev wsX40 : List Cond := u_ws RX4 TX4 5
theorem nmX4 : ∀ a, a < 5 → ∀ b, b < 5 → a ≠ b → (TX4 a).2.1 ≠ (TX4 b).2.1 := by decide +kernel
theorem tyX4_ok : ∀ k, k < 5 → parseFieldDescriptor (TX4 k).2.2.1 = some (tyX4 k) := by decide +kernel
abbrev cX4_init : ByteArray := prog_6_method_1_code
def yX4_init : MethodName := ⟨RX4, "<init>", "(LNightDots$Sky;)V"⟩
abbrev cX4_span : ByteArray := prog_6_method_2_code
def yX4_span : MethodName := ⟨RX4, "span", "(LNightDots$Row;II)Z"⟩
abbrev cX4_linesBy : ByteArray := prog_6_method_3_code
def yX4_linesBy : MethodName := ⟨RX4, "linesBy", "(LNightDots$Row;I)J"⟩
abbrev cX4_linesOf : ByteArray := prog_6_method_4_code
def yX4_linesOf : MethodName := ⟨RX4, "linesOf", "(LNightDots$Row;)J"⟩
abbrev cX4_isSoundBy : ByteArray := prog_6_method_5_code
def yX4_isSoundBy : MethodName := ⟨RX4, "isSoundBy", "(LNightDots$Row;I)Z"⟩
abbrev cX4_isSound : ByteArray := prog_6_method_6_code
def yX4_isSound : MethodName := ⟨RX4, "isSound", "(LNightDots$Row;)Z"⟩
abbrev cX4_edge : ByteArray := prog_6_method_7_code
def yX4_edge : MethodName := ⟨RX4, "edge", "(LNightDots$Row;IIZ)J"⟩
abbrev cX4_reachesBy : ByteArray := prog_6_method_8_code
def yX4_reachesBy : MethodName := ⟨RX4, "reachesBy", "(LNightDots$Row;II)Z"⟩
abbrev cX4_reaches : ByteArray := prog_6_method_9_code
def yX4_reaches : MethodName := ⟨RX4, "reaches", "(LNightDots$Row;I)Z"⟩
def RX5 : String := "NightDots$PairList"
def TX5 : u_T := fun k => match k with
  | 0 => ("NightDots$PairList", "sky", "LNightDots$Sky;", true)
  | 1 => ("NightDots$PairList", "lines", "LNightDots$Net;", true)
  | 2 => ("NightDots$PairList", "twos", "LNightDots$BitList;", true)
  | 3 => ("NightDots$PairList", "one", "[I", true)
  | 4 => ("NightDots$PairList", "other", "[I", true)
  | 5 => ("NightDots$PairList", "first", "[I", true)
  | 6 => ("NightDots$PairList", "second", "[I", true)
  | 7 => ("NightDots$PairList", "four", "LNightDots$Row;", true)
  | 8 => ("NightDots$PairList", "bitsFound", "I", false)
  | 9 => ("NightDots$PairList", "found", "I", false)
  | _ => ("NightDots$PairList", "isKnown", "Z", false)
def tyX5 : Nat → FieldType := fun k => match k with
  | 0 => .object "NightDots$Sky"
  | 1 => .object "NightDots$Net"
  | 2 => .object "NightDots$BitList"
  | 3 => .array .int
  | 4 => .array .int
  | 5 => .array .int
  | 6 => .array .int
  | 7 => .object "NightDots$Row"
  | 8 => .int
  | 9 => .int
  | _ => .boolean
abbrev wsX50 : List Cond := u_ws RX5 TX5 11
theorem nmX5 : ∀ a, a < 11 → ∀ b, b < 11 → a ≠ b → (TX5 a).2.1 ≠ (TX5 b).2.1 := by decide +kernel
theorem tyX5_ok : ∀ k, k < 11 → parseFieldDescriptor (TX5 k).2.2.1 = some (tyX5 k) := by decide +kernel
abbrev cX5_init : ByteArray := prog_7_method_1_code
def yX5_init : MethodName := ⟨RX5, "<init>", "(LNightDots$Sky;LNightDots$Net;LNightDots$BitList;)V"⟩
abbrev cX5_forget : ByteArray := prog_7_method_2_code
def yX5_forget : MethodName := ⟨RX5, "forget", "()V"⟩
abbrev cX5_total : ByteArray := prog_7_method_3_code
def yX5_total : MethodName := ⟨RX5, "total", "()I"⟩
abbrev cX5_gather : ByteArray := prog_7_method_4_code
def yX5_gather : MethodName := ⟨RX5, "gather", "(IILNightDots$Row;)V"⟩
abbrev cX5_findBits : ByteArray := prog_7_method_5_code
def yX5_findBits : MethodName := ⟨RX5, "findBits", "()V"⟩
abbrev cX5_keepBit : ByteArray := prog_7_method_6_code
def yX5_keepBit : MethodName := ⟨RX5, "keepBit", "(II)V"⟩
abbrev cX5_findPairs : ByteArray := prog_7_method_7_code
def yX5_findPairs : MethodName := ⟨RX5, "findPairs", "()V"⟩
abbrev cX5_areOfUnlikeNights : ByteArray := prog_7_method_8_code
def yX5_areOfUnlikeNights : MethodName := ⟨RX5, "areOfUnlikeNights", "(II)Z"⟩
abbrev cX5_keepPair : ByteArray := prog_7_method_9_code
def yX5_keepPair : MethodName := ⟨RX5, "keepPair", "(II)V"⟩
def RX6 : String := "NightDots$Row"
def TX6 : u_T := fun k => match k with
  | 0 => ("NightDots$Row", "dots", "[I", true)
  | _ => ("NightDots$Row", "length", "I", false)
def tyX6 : Nat → FieldType := fun k => match k with
  | 0 => .array .int
  | _ => .int
abbrev wsX60 : List Cond := u_ws RX6 TX6 2
theorem nmX6 : ∀ a, a < 2 → ∀ b, b < 2 → a ≠ b → (TX6 a).2.1 ≠ (TX6 b).2.1 := by decide +kernel
theorem tyX6_ok : ∀ k, k < 2 → parseFieldDescriptor (TX6 k).2.2.1 = some (tyX6 k) := by decide +kernel
abbrev cX6_init : ByteArray := prog_8_method_1_code
def yX6_init : MethodName := ⟨RX6, "<init>", "()V"⟩
abbrev cX6_clear : ByteArray := prog_8_method_2_code
def yX6_clear : MethodName := ⟨RX6, "clear", "()V"⟩
abbrev cX6_add : ByteArray := prog_8_method_3_code
def yX6_add : MethodName := ⟨RX6, "add", "(I)V"⟩
abbrev cX6_addAll : ByteArray := prog_8_method_4_code
def yX6_addAll : MethodName := ⟨RX6, "addAll", "(LNightDots$Row;)V"⟩
abbrev cX6_become : ByteArray := prog_8_method_5_code
def yX6_become : MethodName := ⟨RX6, "become", "(LNightDots$Row;)V"⟩
def RX7 : String := "NightDots$Sky"
def TX7 : u_T := fun k => match k with
  | 0 => ("NightDots$Sky", "hour", "[I", true)
  | 1 => ("NightDots$Sky", "x", "[I", true)
  | 2 => ("NightDots$Sky", "y", "[I", true)
  | 3 => ("NightDots$Sky", "watcher", "[I", true)
  | 4 => ("NightDots$Sky", "path", "[I", true)
  | _ => ("NightDots$Sky", "size", "I", false)
def tyX7 : Nat → FieldType := fun k => match k with
  | 0 => .array .int
  | 1 => .array .int
  | 2 => .array .int
  | 3 => .array .int
  | 4 => .array .int
  | _ => .int
abbrev wsX70 : List Cond := u_ws RX7 TX7 6
theorem nmX7 : ∀ a, a < 6 → ∀ b, b < 6 → a ≠ b → (TX7 a).2.1 ≠ (TX7 b).2.1 := by decide +kernel
theorem tyX7_ok : ∀ k, k < 6 → parseFieldDescriptor (TX7 k).2.2.1 = some (tyX7 k) := by decide +kernel
abbrev cX7_init : ByteArray := prog_9_method_1_code
def yX7_init : MethodName := ⟨RX7, "<init>", "()V"⟩
abbrev cX7_has : ByteArray := prog_9_method_2_code
def yX7_has : MethodName := ⟨RX7, "has", "(I)Z"⟩
abbrev cX7_isFree : ByteArray := prog_9_method_3_code
def yX7_isFree : MethodName := ⟨RX7, "isFree", "(I)Z"⟩
abbrev cX7_nightOf : ByteArray := prog_9_method_4_code
def yX7_nightOf : MethodName := ⟨RX7, "nightOf", "(I)I"⟩
abbrev cX7_placeOf : ByteArray := prog_9_method_5_code
def yX7_placeOf : MethodName := ⟨RX7, "placeOf", "(II)I"⟩
abbrev cX7_find : ByteArray := prog_9_method_6_code
def yX7_find : MethodName := ⟨RX7, "find", "(III)I"⟩
abbrev cX7_add : ByteArray := prog_9_method_7_code
def yX7_add : MethodName := ⟨RX7, "add", "(IIII)I"⟩
abbrev cX7_freeOnes : ByteArray := prog_9_method_8_code
def yX7_freeOnes : MethodName := ⟨RX7, "freeOnes", "()I"⟩
abbrev cX7_putAll : ByteArray := prog_9_method_9_code
def yX7_putAll : MethodName := ⟨RX7, "putAll", "(LNightDots$Row;I)V"⟩
def RX8 : String := "NightDots$Wanderer"
def TX8 : u_T := fun k => match k with
  | 0 => ("NightDots$Wanderer", "name", "I", false)
  | 1 => ("NightDots$Wanderer", "gone", "Z", false)
  | _ => ("NightDots$Wanderer", "row", "LNightDots$Row;", true)
def tyX8 : Nat → FieldType := fun k => match k with
  | 0 => .int
  | 1 => .boolean
  | _ => .object "NightDots$Row"
abbrev wsX80 : List Cond := u_ws RX8 TX8 3
theorem nmX8 : ∀ a, a < 3 → ∀ b, b < 3 → a ≠ b → (TX8 a).2.1 ≠ (TX8 b).2.1 := by decide +kernel
theorem tyX8_ok : ∀ k, k < 3 → parseFieldDescriptor (TX8 k).2.2.1 = some (tyX8 k) := by decide +kernel
abbrev cX8_init : ByteArray := prog_10_method_1_code
def yX8_init : MethodName := ⟨RX8, "<init>", "()V"⟩
def RX9 : String := "NightDots$Wanderers"
def TX9 : u_T := fun k => match k with
  | 0 => ("NightDots$Wanderers", "sky", "LNightDots$Sky;", true)
  | 1 => ("NightDots$Wanderers", "list", "[LNightDots$Wanderer;", true)
  | _ => ("NightDots$Wanderers", "ever", "I", false)
def tyX9 : Nat → FieldType := fun k => match k with
  | 0 => .object "NightDots$Sky"
  | 1 => .array (.object "NightDots$Wanderer")
  | _ => .int
abbrev wsX90 : List Cond := u_ws RX9 TX9 3
theorem nmX9 : ∀ a, a < 3 → ∀ b, b < 3 → a ≠ b → (TX9 a).2.1 ≠ (TX9 b).2.1 := by decide +kernel
theorem tyX9_ok : ∀ k, k < 3 → parseFieldDescriptor (TX9 k).2.2.1 = some (tyX9 k) := by decide +kernel
abbrev cX9_init : ByteArray := prog_11_method_1_code
def yX9_init : MethodName := ⟨RX9, "<init>", "(LNightDots$Sky;)V"⟩
abbrev cX9_has : ByteArray := prog_11_method_2_code
def yX9_has : MethodName := ⟨RX9, "has", "(I)Z"⟩
abbrev cX9_add : ByteArray := prog_11_method_3_code
def yX9_add : MethodName := ⟨RX9, "add", "(I)I"⟩
abbrev cX9_notGone : ByteArray := prog_11_method_4_code
def yX9_notGone : MethodName := ⟨RX9, "notGone", "()I"⟩
abbrev cX9_replaceRow : ByteArray := prog_11_method_5_code
def yX9_replaceRow : MethodName := ⟨RX9, "replaceRow", "(ILNightDots$Row;)V"⟩
abbrev cX9_bringBack : ByteArray := prog_11_method_6_code
def yX9_bringBack : MethodName := ⟨RX9, "bringBack", "(I)V"⟩
def RX10 : String := "NightDots"
def TX10 : u_T := fun k => match k with
  | 0 => ("NightDots", "sky", "LNightDots$Sky;", true)
  | 1 => ("NightDots", "lines", "LNightDots$Net;", true)
  | 2 => ("NightDots", "twos", "LNightDots$BitList;", true)
  | 3 => ("NightDots", "fours", "LNightDots$PairList;", true)
  | 4 => ("NightDots", "wanderers", "LNightDots$Wanderers;", true)
  | 5 => ("NightDots", "acts", "LNightDots$Acts;", true)
  | 6 => ("NightDots", "line", "LNightDots$Line;", true)
  | _ => ("NightDots", "group", "LNightDots$Row;", true)
def tyX10 : Nat → FieldType := fun k => match k with
  | 0 => .object "NightDots$Sky"
  | 1 => .object "NightDots$Net"
  | 2 => .object "NightDots$BitList"
  | 3 => .object "NightDots$PairList"
  | 4 => .object "NightDots$Wanderers"
  | 5 => .object "NightDots$Acts"
  | 6 => .object "NightDots$Line"
  | _ => .object "NightDots$Row"
abbrev wsX100 : List Cond := u_ws RX10 TX10 8
theorem nmX10 : ∀ a, a < 8 → ∀ b, b < 8 → a ≠ b → (TX10 a).2.1 ≠ (TX10 b).2.1 := by decide +kernel
theorem tyX10_ok : ∀ k, k < 8 → parseFieldDescriptor (TX10 k).2.2.1 = some (tyX10 k) := by decide +kernel
abbrev cX10_init : ByteArray := prog_1_method_1_code
def yX10_init : MethodName := ⟨RX10, "<init>", "()V"⟩
abbrev cX10_dot : ByteArray := prog_1_method_2_code
def yX10_dot : MethodName := ⟨RX10, "dot", "(IIII)I"⟩
abbrev cX10_pace : ByteArray := prog_1_method_3_code
def yX10_pace : MethodName := ⟨RX10, "pace", "(I)I"⟩
abbrev cX10_net : ByteArray := prog_1_method_4_code
def yX10_net : MethodName := ⟨RX10, "net", "(II)I"⟩
abbrev cX10_about : ByteArray := prog_1_method_5_code
def yX10_about : MethodName := ⟨RX10, "about", "(II)I"⟩
abbrev cX10_bits : ByteArray := prog_1_method_6_code
def yX10_bits : MethodName := ⟨RX10, "bits", "()I"⟩
abbrev cX10_bit : ByteArray := prog_1_method_7_code
def yX10_bit : MethodName := ⟨RX10, "bit", "(II)I"⟩
abbrev cX10_pairs : ByteArray := prog_1_method_8_code
def yX10_pairs : MethodName := ⟨RX10, "pairs", "()I"⟩
abbrev cX10_pair : ByteArray := prog_1_method_9_code
def yX10_pair : MethodName := ⟨RX10, "pair", "(II)I"⟩
abbrev cX10_start : ByteArray := prog_1_method_10_code
def yX10_start : MethodName := ⟨RX10, "start", "(II)I"⟩
abbrev cX10_single : ByteArray := prog_1_method_11_code
def yX10_single : MethodName := ⟨RX10, "single", "(II)I"⟩
abbrev cX10_join : ByteArray := prog_1_method_12_code
def yX10_join : MethodName := ⟨RX10, "join", "(II)I"⟩
abbrev cX10_joinBit : ByteArray := prog_1_method_13_code
def yX10_joinBit : MethodName := ⟨RX10, "joinBit", "(II)I"⟩
abbrev cX10_force : ByteArray := prog_1_method_14_code
def yX10_force : MethodName := ⟨RX10, "force", "(II)I"⟩
abbrev cX10_path : ByteArray := prog_1_method_15_code
def yX10_path : MethodName := ⟨RX10, "path", "(II)I"⟩
abbrev cX10_heap : ByteArray := prog_1_method_16_code
def yX10_heap : MethodName := ⟨RX10, "heap", "(I)J"⟩
abbrev cX10_ahead : ByteArray := prog_1_method_17_code
def yX10_ahead : MethodName := ⟨RX10, "ahead", "(III)J"⟩
abbrev cX10_tellOff : ByteArray := prog_1_method_18_code
def yX10_tellOff : MethodName := ⟨RX10, "tellOff", "(I)I"⟩
abbrev cX10_fit : ByteArray := prog_1_method_19_code
def yX10_fit : MethodName := ⟨RX10, "fit", "(IIII)J"⟩
abbrev cX10_miss : ByteArray := prog_1_method_20_code
def yX10_miss : MethodName := ⟨RX10, "miss", "(IIII)J"⟩
abbrev cX10_part : ByteArray := prog_1_method_21_code
def yX10_part : MethodName := ⟨RX10, "part", "(I)I"⟩
abbrev cX10_same : ByteArray := prog_1_method_22_code
def yX10_same : MethodName := ⟨RX10, "same", "(II)I"⟩
abbrev cX10_merge : ByteArray := prog_1_method_23_code
def yX10_merge : MethodName := ⟨RX10, "merge", "(II)I"⟩
abbrev cX10_undo : ByteArray := prog_1_method_24_code
def yX10_undo : MethodName := ⟨RX10, "undo", "()I"⟩
abbrev cX10_count : ByteArray := prog_1_method_25_code
def yX10_count : MethodName := ⟨RX10, "count", "(I)I"⟩
abbrev cX10_isWithin : ByteArray := prog_1_method_26_code
def yX10_isWithin : MethodName := ⟨RX10, "isWithin", "(III)Z"⟩
abbrev cX10_isName : ByteArray := prog_1_method_27_code
def yX10_isName : MethodName := ⟨RX10, "isName", "(I)Z"⟩
abbrev cX10_dotOfRow : ByteArray := prog_1_method_28_code
def yX10_dotOfRow : MethodName := ⟨RX10, "dotOfRow", "(LNightDots$Row;I)I"⟩
abbrev cX10_begin : ByteArray := prog_1_method_29_code
def yX10_begin : MethodName := ⟨RX10, "begin", "(I)I"⟩
abbrev cX10_joinGroup : ByteArray := prog_1_method_30_code
def yX10_joinGroup : MethodName := ⟨RX10, "joinGroup", "(I)I"⟩
abbrev cX10_lengthen : ByteArray := prog_1_method_31_code
def yX10_lengthen : MethodName := ⟨RX10, "lengthen", "(I)I"⟩
abbrev cX10_changeRow : ByteArray := prog_1_method_32_code
def yX10_changeRow : MethodName := ⟨RX10, "changeRow", "(I)LNightDots$Act;"⟩
abbrev cX10_gatherBoth : ByteArray := prog_1_method_33_code
def yX10_gatherBoth : MethodName := ⟨RX10, "gatherBoth", "(II)V"⟩
abbrev cX10_lay : ByteArray := prog_1_method_34_code
def yX10_lay : MethodName := ⟨RX10, "lay", "(II)Z"⟩
abbrev cX10_parting : ByteArray := prog_1_method_35_code
def yX10_parting : MethodName := ⟨RX10, "parting", "(LNightDots$Row;)I"⟩
abbrev cX10_keepStaying : ByteArray := prog_1_method_36_code
def yX10_keepStaying : MethodName := ⟨RX10, "keepStaying", "(LNightDots$Row;I)V"⟩
def RX11 : String := "NightDotsModel"
def TX11 : u_T := fun k => match k with
  | 0 => ("NightDotsModel", "dots", "I", false)
  | 1 => ("NightDotsModel", "paths", "I", false)
  | 2 => ("NightDotsModel", "pace", "I", false)
  | 3 => ("NightDotsModel", "grid", "I", false)
  | 4 => ("NightDotsModel", "end", "I", false)
  | 5 => ("NightDotsModel", "hour", "[I", true)
  | 6 => ("NightDotsModel", "x", "[I", true)
  | 7 => ("NightDotsModel", "y", "[I", true)
  | 8 => ("NightDotsModel", "watcher", "[I", true)
  | 9 => ("NightDotsModel", "of", "[I", true)
  | 10 => ("NightDotsModel", "name", "[I", true)
  | 11 => ("NightDotsModel", "size", "[I", true)
  | 12 => ("NightDotsModel", "row", "[I", true)
  | 13 => ("NightDotsModel", "gone", "[Z", true)
  | 14 => ("NightDotsModel", "some", "[I", true)
  | 15 => ("NightDotsModel", "count", "I", false)
  | 16 => ("NightDotsModel", "low", "I", false)
  | 17 => ("NightDotsModel", "high", "I", false)
  | 18 => ("NightDotsModel", "least", "J", false)
  | 19 => ("NightDotsModel", "most", "J", false)
  | 20 => ("NightDotsModel", "bitA", "[I", true)
  | 21 => ("NightDotsModel", "bitB", "[I", true)
  | 22 => ("NightDotsModel", "bits", "I", false)
  | 23 => ("NightDotsModel", "pairA", "[I", true)
  | 24 => ("NightDotsModel", "pairB", "[I", true)
  | 25 => ("NightDotsModel", "pairs", "I", false)
  | 26 => ("NightDotsModel", "acts", "I", false)
  | 27 => ("NightDotsModel", "firstAct", "I", false)
  | 28 => ("NightDotsModel", "keptPaths", "[I", true)
  | 29 => ("NightDotsModel", "keptSize", "[I", true)
  | 30 => ("NightDotsModel", "keptRow", "[I", true)
  | 31 => ("NightDotsModel", "keptGone", "[Z", true)
  | 32 => ("NightDotsModel", "vUp", "J", false)
  | 33 => ("NightDotsModel", "pUp", "J", false)
  | 34 => ("NightDotsModel", "under", "J", false)
  | _ => ("NightDotsModel", "pUnder", "J", false)
def tyX11 : Nat → FieldType := fun k => match k with
  | 0 => .int
  | 1 => .int
  | 2 => .int
  | 3 => .int
  | 4 => .int
  | 5 => .array .int
  | 6 => .array .int
  | 7 => .array .int
  | 8 => .array .int
  | 9 => .array .int
  | 10 => .array .int
  | 11 => .array .int
  | 12 => .array .int
  | 13 => .array .boolean
  | 14 => .array .int
  | 15 => .int
  | 16 => .int
  | 17 => .int
  | 18 => .long
  | 19 => .long
  | 20 => .array .int
  | 21 => .array .int
  | 22 => .int
  | 23 => .array .int
  | 24 => .array .int
  | 25 => .int
  | 26 => .int
  | 27 => .int
  | 28 => .array .int
  | 29 => .array .int
  | 30 => .array .int
  | 31 => .array .boolean
  | 32 => .long
  | 33 => .long
  | 34 => .long
  | _ => .long
abbrev wsX110 : List Cond := u_ws RX11 TX11 36
theorem nmX11 : ∀ a, a < 36 → ∀ b, b < 36 → a ≠ b → (TX11 a).2.1 ≠ (TX11 b).2.1 := by decide +kernel
theorem tyX11_ok : ∀ k, k < 36 → parseFieldDescriptor (TX11 k).2.2.1 = some (tyX11 k) := by decide +kernel
abbrev cX11_init : ByteArray := prog_13_method_1_code
def yX11_init : MethodName := ⟨RX11, "<init>", "()V"⟩
abbrev cX11_isIn : ByteArray := prog_13_method_2_code
def yX11_isIn : MethodName := ⟨RX11, "isIn", "(III)Z"⟩
abbrev cX11_isDot : ByteArray := prog_13_method_3_code
def yX11_isDot : MethodName := ⟨RX11, "isDot", "(I)Z"⟩
abbrev cX11_isPath : ByteArray := prog_13_method_4_code
def yX11_isPath : MethodName := ⟨RX11, "isPath", "(I)Z"⟩
abbrev cX11_dot : ByteArray := prog_13_method_5_code
def yX11_dot : MethodName := ⟨RX11, "dot", "(IIII)I"⟩
abbrev cX11_pace : ByteArray := prog_13_method_6_code
def yX11_pace : MethodName := ⟨RX11, "pace", "(I)I"⟩
abbrev cX11_net : ByteArray := prog_13_method_7_code
def yX11_net : MethodName := ⟨RX11, "net", "(II)I"⟩
abbrev cX11_night : ByteArray := prog_13_method_8_code
def yX11_night : MethodName := ⟨RX11, "night", "(I)I"⟩
abbrev cX11_about : ByteArray := prog_13_method_9_code
def yX11_about : MethodName := ⟨RX11, "about", "(II)I"⟩
abbrev cX11_take : ByteArray := prog_13_method_10_code
def yX11_take : MethodName := ⟨RX11, "take", "(I)V"⟩
abbrev cX11_adds : ByteArray := prog_13_method_11_code
def yX11_adds : MethodName := ⟨RX11, "adds", "(I)V"⟩
abbrev cX11_placeOf : ByteArray := prog_13_method_12_code
def yX11_placeOf : MethodName := ⟨RX11, "placeOf", "(II)I"⟩
abbrev cX11_lines : ByteArray := prog_13_method_13_code
def yX11_lines : MethodName := ⟨RX11, "lines", "(II)I"⟩
abbrev cX11_allLines : ByteArray := prog_13_method_14_code
def yX11_allLines : MethodName := ⟨RX11, "allLines", "(I)J"⟩
abbrev cX11_isHeap : ByteArray := prog_13_method_15_code
def yX11_isHeap : MethodName := ⟨RX11, "isHeap", "()Z"⟩
abbrev cX11_isSound : ByteArray := prog_13_method_16_code
def yX11_isSound : MethodName := ⟨RX11, "isSound", "(I)Z"⟩
abbrev cX11_ahead0 : ByteArray := prog_13_method_17_code
def yX11_ahead0 : MethodName := ⟨RX11, "ahead0", "(II)V"⟩
abbrev cX11_isNear : ByteArray := prog_13_method_18_code
def yX11_isNear : MethodName := ⟨RX11, "isNear", "(II)Z"⟩
abbrev cX11_findBits : ByteArray := prog_13_method_19_code
def yX11_findBits : MethodName := ⟨RX11, "findBits", "()V"⟩
abbrev cX11_bits : ByteArray := prog_13_method_20_code
def yX11_bits : MethodName := ⟨RX11, "bits", "()I"⟩
abbrev cX11_bit : ByteArray := prog_13_method_21_code
def yX11_bit : MethodName := ⟨RX11, "bit", "(II)I"⟩
abbrev cX11_findPairs : ByteArray := prog_13_method_22_code
def yX11_findPairs : MethodName := ⟨RX11, "findPairs", "()Z"⟩
abbrev cX11_pairs : ByteArray := prog_13_method_23_code
def yX11_pairs : MethodName := ⟨RX11, "pairs", "()I"⟩
abbrev cX11_pair : ByteArray := prog_13_method_24_code
def yX11_pair : MethodName := ⟨RX11, "pair", "(II)I"⟩
abbrev cX11_keep : ByteArray := prog_13_method_25_code
def yX11_keep : MethodName := ⟨RX11, "keep", "()V"⟩
abbrev cX11_own : ByteArray := prog_13_method_26_code
def yX11_own : MethodName := ⟨RX11, "own", "()V"⟩
abbrev cX11_undo : ByteArray := prog_13_method_27_code
def yX11_undo : MethodName := ⟨RX11, "undo", "()I"⟩
abbrev cX11_comes : ByteArray := prog_13_method_28_code
def yX11_comes : MethodName := ⟨RX11, "comes", "(II)V"⟩
abbrev cX11_begins : ByteArray := prog_13_method_29_code
def yX11_begins : MethodName := ⟨RX11, "begins", "(I)I"⟩
abbrev cX11_start : ByteArray := prog_13_method_30_code
def yX11_start : MethodName := ⟨RX11, "start", "(II)I"⟩
abbrev cX11_single : ByteArray := prog_13_method_31_code
def yX11_single : MethodName := ⟨RX11, "single", "(II)I"⟩
abbrev cX11_join : ByteArray := prog_13_method_32_code
def yX11_join : MethodName := ⟨RX11, "join", "(II)I"⟩
abbrev cX11_joinBit : ByteArray := prog_13_method_33_code
def yX11_joinBit : MethodName := ⟨RX11, "joinBit", "(II)I"⟩
abbrev cX11_force : ByteArray := prog_13_method_34_code
def yX11_force : MethodName := ⟨RX11, "force", "(II)I"⟩
abbrev cX11_path : ByteArray := prog_13_method_35_code
def yX11_path : MethodName := ⟨RX11, "path", "(II)I"⟩
abbrev cX11_heap : ByteArray := prog_13_method_36_code
def yX11_heap : MethodName := ⟨RX11, "heap", "(I)J"⟩
abbrev cX11_ahead : ByteArray := prog_13_method_37_code
def yX11_ahead : MethodName := ⟨RX11, "ahead", "(III)J"⟩
abbrev cX11_isWithin : ByteArray := prog_13_method_38_code
def yX11_isWithin : MethodName := ⟨RX11, "isWithin", "(II)Z"⟩
abbrev cX11_tellOff : ByteArray := prog_13_method_39_code
def yX11_tellOff : MethodName := ⟨RX11, "tellOff", "(I)I"⟩
abbrev cX11_fits : ByteArray := prog_13_method_40_code
def yX11_fits : MethodName := ⟨RX11, "fits", "(II)Z"⟩
abbrev cX11_divisor : ByteArray := prog_13_method_41_code
def yX11_divisor : MethodName := ⟨RX11, "divisor", "(JJ)J"⟩
abbrev cX11_told : ByteArray := prog_13_method_42_code
def yX11_told : MethodName := ⟨RX11, "told", "(JJI)J"⟩
abbrev cX11_fit : ByteArray := prog_13_method_43_code
def yX11_fit : MethodName := ⟨RX11, "fit", "(IIII)J"⟩
abbrev cX11_miss : ByteArray := prog_13_method_44_code
def yX11_miss : MethodName := ⟨RX11, "miss", "(IIII)J"⟩
abbrev cX11_bitsOf : ByteArray := prog_13_method_45_code
def yX11_bitsOf : MethodName := ⟨RX11, "bitsOf", "(I)I"⟩
abbrev cX11_isSoundWithout : ByteArray := prog_13_method_46_code
def yX11_isSoundWithout : MethodName := ⟨RX11, "isSoundWithout", "(II)Z"⟩
abbrev cX11_part : ByteArray := prog_13_method_47_code
def yX11_part : MethodName := ⟨RX11, "part", "(I)I"⟩
abbrev cX11_areSame : ByteArray := prog_13_method_48_code
def yX11_areSame : MethodName := ⟨RX11, "areSame", "(II)Z"⟩
abbrev cX11_same : ByteArray := prog_13_method_49_code
def yX11_same : MethodName := ⟨RX11, "same", "(II)I"⟩
abbrev cX11_merge : ByteArray := prog_13_method_50_code
def yX11_merge : MethodName := ⟨RX11, "merge", "(II)I"⟩
abbrev cX11_count : ByteArray := prog_13_method_51_code
def yX11_count : MethodName := ⟨RX11, "count", "(I)I"⟩
def RJ6 : String := "java/lang/Integer"
def TJ6 : u_T := fun k => match k with
  | _ => ("", "", "", false)
def tyJ6 : Nat → FieldType := fun k => match k with
  | _ => .int
abbrev wsJ60 : List Cond := u_ws RJ6 TJ6 0
theorem nmJ6 : ∀ a, a < 0 → ∀ b, b < 0 → a ≠ b → (TJ6 a).2.1 ≠ (TJ6 b).2.1 := by decide +kernel
theorem tyJ6_ok : ∀ k, k < 0 → parseFieldDescriptor (TJ6 k).2.2.1 = some (tyJ6 k) := by decide +kernel
abbrev cJ6_bitCount_0f7a4 : ByteArray := prog_14_method_49_code
def yJ6_bitCount_0f7a4 : MethodName := ⟨RJ6, "bitCount", "(I)I"⟩
def RJ9 : String := "java/lang/Math"
def TJ9 : u_T := fun k => match k with
  | _ => ("", "", "", false)
def tyJ9 : Nat → FieldType := fun k => match k with
  | _ => .int
abbrev wsJ90 : List Cond := u_ws RJ9 TJ9 0
theorem nmJ9 : ∀ a, a < 0 → ∀ b, b < 0 → a ≠ b → (TJ9 a).2.1 ≠ (TJ9 b).2.1 := by decide +kernel
theorem tyJ9_ok : ∀ k, k < 0 → parseFieldDescriptor (TJ9 k).2.2.1 = some (tyJ9 k) := by decide +kernel
abbrev cJ9_floorDiv_7cf53 : ByteArray := prog_15_method_47_code
def yJ9_floorDiv_7cf53 : MethodName := ⟨RJ9, "floorDiv", "(II)I"⟩
abbrev cJ9_abs_0f7a4 : ByteArray := prog_15_method_59_code
def yJ9_abs_0f7a4 : MethodName := ⟨RJ9, "abs", "(I)I"⟩
abbrev cJ9_abs_067f4 : ByteArray := prog_15_method_61_code
def yJ9_abs_067f4 : MethodName := ⟨RJ9, "abs", "(J)J"⟩
abbrev cJ9_max_7cf53 : ByteArray := prog_15_method_65_code
def yJ9_max_7cf53 : MethodName := ⟨RJ9, "max", "(II)I"⟩
abbrev cJ9_max_f86c9 : ByteArray := prog_15_method_66_code
def yJ9_max_f86c9 : MethodName := ⟨RJ9, "max", "(JJ)J"⟩
abbrev cJ9_min_7cf53 : ByteArray := prog_15_method_69_code
def yJ9_min_7cf53 : MethodName := ⟨RJ9, "min", "(II)I"⟩
abbrev cJ9_min_f86c9 : ByteArray := prog_15_method_70_code
def yJ9_min_f86c9 : MethodName := ⟨RJ9, "min", "(JJ)J"⟩
def RL : String := "NightDotsLaw"
abbrev cL_law : ByteArray := code
def yL_law : MethodName := ⟨RL, "law", "([I)Z"⟩
abbrev vwCl : List vw_C := [(RX0, TX0, 4), (RX1, TX1, 3), (RX2, TX2, 4), (RX3, TX3, 5), (RX4, TX4, 5), (RX5, TX5, 11), (RX6, TX6, 2), (RX7, TX7, 6), (RX8, TX8, 3), (RX9, TX9, 3), (RX10, TX10, 8), (RX11, TX11, 36)]
/-! ===== the words that every method's contract takes: those of the tables that stay (by their places) ===== -/
def g_tb : List Cond := lw_tbl.filter goodWord
theorem g_tb_good : GoodIn lw_tbl g_tb := fun w h => ⟨(List.mem_filter.mp h).1, good_of_word (List.mem_filter.mp h).2⟩
theorem tbl0 {w : Cond} (j : Nat) (h : (k2_sels lw_privs)[j]? = some w) : w ∈ lw_tbl := List.mem_append_left _ (List.mem_of_getElem? h)
theorem tbl1 {w : Cond} (j : Nat) (h : tables_1_1[j]? = some w) : w ∈ lw_tbl := List.mem_append_right _ (List.mem_append_left _ (List.mem_of_getElem? h))
theorem tbl2 {w : Cond} (j : Nat) (h : tables_1_2[j]? = some w) : w ∈ lw_tbl := List.mem_append_right _ (List.mem_append_right _ (List.mem_append_left _ (List.mem_of_getElem? h)))
theorem tbl3 {w : Cond} (j : Nat) (h : tables_1_3[j]? = some w) : w ∈ lw_tbl := List.mem_append_right _ (List.mem_append_right _ (List.mem_append_right _ (List.mem_append_left _ (List.mem_of_getElem? h))))
theorem tbl4 {w : Cond} (j : Nat) (h : tables_1_4[j]? = some w) : w ∈ lw_tbl := List.mem_append_right _ (List.mem_append_right _ (List.mem_append_right _ (List.mem_append_right _ (List.mem_append_left _ (List.mem_of_getElem? h)))))
theorem tbl5 {w : Cond} (j : Nat) (h : tables_1_5[j]? = some w) : w ∈ lw_tbl := List.mem_append_right _ (List.mem_append_right _ (List.mem_append_right _ (List.mem_append_right _ (List.mem_append_right _ (List.mem_of_getElem? h)))))
theorem tb0 {w : Cond} (j : Nat) (h : (k2_sels lw_privs)[j]? = some w) (hg : goodWord w = true) : w ∈ g_tb := List.mem_filter.mpr ⟨tbl0 j h, hg⟩
theorem tb1 {w : Cond} (j : Nat) (h : tables_1_1[j]? = some w) (hg : goodWord w = true) : w ∈ g_tb := List.mem_filter.mpr ⟨tbl1 j h, hg⟩
theorem tb2 {w : Cond} (j : Nat) (h : tables_1_2[j]? = some w) (hg : goodWord w = true) : w ∈ g_tb := List.mem_filter.mpr ⟨tbl2 j h, hg⟩
theorem tb3 {w : Cond} (j : Nat) (h : tables_1_3[j]? = some w) (hg : goodWord w = true) : w ∈ g_tb := List.mem_filter.mpr ⟨tbl3 j h, hg⟩
theorem tb4 {w : Cond} (j : Nat) (h : tables_1_4[j]? = some w) (hg : goodWord w = true) : w ∈ g_tb := List.mem_filter.mpr ⟨tbl4 j h, hg⟩
theorem tb5 {w : Cond} (j : Nat) (h : tables_1_5[j]? = some w) (hg : goodWord w = true) : w ∈ g_tb := List.mem_filter.mpr ⟨tbl5 j h, hg⟩
