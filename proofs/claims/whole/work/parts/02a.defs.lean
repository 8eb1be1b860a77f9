/-! ===== BEGIN words of one list among another's, by their places ===== -/
theorem goodIn_r {big : List Cond} (ws : List Cond) (ps : List Nat) (hp : ws = ps.filterMap (fun i => big[i]?)) (h : ws.all goodWord = true) : GoodIn big ws := by
  intro w hw
  have h1 := List.all_eq_true.mp h w hw
  rw [hp] at hw
  obtain ⟨i, -, hi⟩ := List.mem_filterMap.mp hw
  have hm : w ∈ big := by first | exact List.mem_of_getElem? hi | exact List.getElem?_mem hi
  exact ⟨hm, good_of_word h1⟩
theorem goodIn_app {big a b : List Cond} (ha : GoodIn big a) (hb : GoodIn big b) : GoodIn big (a ++ b) := fun w h => (List.mem_append.mp h).elim (ha w) (hb w)
theorem goodIn_ca {big a b : List Cond} {c : Cond} (ha : GoodIn big (c :: a)) (hb : GoodIn big b) : GoodIn big (c :: (a ++ b)) := fun w h => (List.mem_cons.mp h).elim (fun e => ha w (List.mem_cons.mpr (Or.inl e))) (fun h => (List.mem_append.mp h).elim (fun h => ha w (List.mem_cons.mpr (Or.inr h))) (hb w))
theorem goodIn_sub {big ws : List Cond} (hm : ∀ w ∈ ws, w ∈ big) (h : ws.all goodWord = true) : GoodIn big ws := fun w hw => ⟨hm w hw, good_of_word (List.all_eq_true.mp h w hw)⟩
/-! ===== END ===== -/

/-! ===== BEGIN printed: names, fields, word lists, decode rows ===== -/
def RX0 : String := "OpenWhileItRains$Case"
def TX0 : u_T := fun k => match k with
  | 0 => ("OpenWhileItRains$Case", "names", "[I", true)
  | 1 => ("OpenWhileItRains$Case", "kind", "I", false)
  | 2 => ("OpenWhileItRains$Case", "rule", "LOpenWhileItRains$Text;", false)
  | _ => ("OpenWhileItRains$Case", "street", "I", false)
def tyX0 : Nat → FieldType := fun k => match k with
  | 0 => .array .int
  | 1 => .int
  | 2 => .object "OpenWhileItRains$Text"
  | _ => .int
abbrev wsX00 : List Cond := u_ws RX0 TX0 4
theorem nmX0 : ∀ a, a < 4 → ∀ b, b < 4 → a ≠ b → (TX0 a).2.1 ≠ (TX0 b).2.1 := by decide +kernel
theorem tyX0_ok : ∀ k, k < 4 → parseFieldDescriptor (TX0 k).2.2.1 = some (tyX0 k) := by decide +kernel
abbrev cX0_init : ByteArray := prog_2_method_1_code
def yX0_init : MethodName := ⟨RX0, "<init>", "()V"⟩
abbrev cX0_regard : ByteArray := prog_2_method_2_code
def yX0_regard : MethodName := ⟨RX0, "regard", "(LOpenWhileItRains$Market;II)V"⟩
abbrev cX0_see : ByteArray := prog_2_method_3_code
def yX0_see : MethodName := ⟨RX0, "see", "([II)V"⟩
abbrev cX0_needs : ByteArray := prog_2_method_4_code
def yX0_needs : MethodName := ⟨RX0, "needs", "()I"⟩
abbrev cX0_takes : ByteArray := prog_2_method_5_code
def yX0_takes : MethodName := ⟨RX0, "takes", "()I"⟩
abbrev cX0_worth : ByteArray := prog_2_method_6_code
def yX0_worth : MethodName := ⟨RX0, "worth", "()I"⟩
abbrev cX0_lastHour : ByteArray := prog_2_method_7_code
def yX0_lastHour : MethodName := ⟨RX0, "lastHour", "([II)I"⟩
abbrev cX0_lastHeld : ByteArray := prog_2_method_8_code
def yX0_lastHeld : MethodName := ⟨RX0, "lastHeld", "([IIII)I"⟩
abbrev cX0_shakenHour : ByteArray := prog_2_method_9_code
def yX0_shakenHour : MethodName := ⟨RX0, "shakenHour", "([II)I"⟩
abbrev cX0_firstOther : ByteArray := prog_2_method_10_code
def yX0_firstOther : MethodName := ⟨RX0, "firstOther", "(LOpenWhileItRains$Row;[I)I"⟩
abbrev cX0_rainIn : ByteArray := prog_2_method_11_code
def yX0_rainIn : MethodName := ⟨RX0, "rainIn", "([II)I"⟩
def RX1 : String := "OpenWhileItRains$Kinds"
def TX1 : u_T := fun k => match k with
  | _ => ("", "", "", false)
def tyX1 : Nat → FieldType := fun k => match k with
  | _ => .int
abbrev wsX10 : List Cond := u_ws RX1 TX1 0
theorem nmX1 : ∀ a, a < 0 → ∀ b, b < 0 → a ≠ b → (TX1 a).2.1 ≠ (TX1 b).2.1 := by decide +kernel
theorem tyX1_ok : ∀ k, k < 0 → parseFieldDescriptor (TX1 k).2.2.1 = some (tyX1 k) := by decide +kernel
abbrev cX1_needs : ByteArray := prog_3_method_2_code
def yX1_needs : MethodName := ⟨RX1, "needs", "(III)I"⟩
abbrev cX1_takes : ByteArray := prog_3_method_3_code
def yX1_takes : MethodName := ⟨RX1, "takes", "(III)I"⟩
abbrev cX1_worth : ByteArray := prog_3_method_4_code
def yX1_worth : MethodName := ⟨RX1, "worth", "(IIII)I"⟩
abbrev cX1_isUnder : ByteArray := prog_3_method_5_code
def yX1_isUnder : MethodName := ⟨RX1, "isUnder", "(II)Z"⟩
def RX2 : String := "OpenWhileItRains$Market"
def TX2 : u_T := fun k => match k with
  | 0 => ("OpenWhileItRains$Market", "rain", "[I", true)
  | 1 => ("OpenWhileItRains$Market", "kinds", "[I", true)
  | 2 => ("OpenWhileItRains$Market", "numbers", "[I", true)
  | 3 => ("OpenWhileItRains$Market", "streets", "[I", true)
  | 4 => ("OpenWhileItRains$Market", "shaken", "[I", true)
  | 5 => ("OpenWhileItRains$Market", "west", "I", false)
  | 6 => ("OpenWhileItRains$Market", "size", "I", false)
  | _ => ("OpenWhileItRains$Market", "rule", "LOpenWhileItRains$Text;", false)
def tyX2 : Nat → FieldType := fun k => match k with
  | 0 => .array .int
  | 1 => .array .int
  | 2 => .array .int
  | 3 => .array .int
  | 4 => .array .int
  | 5 => .int
  | 6 => .int
  | _ => .object "OpenWhileItRains$Text"
abbrev wsX20 : List Cond := u_ws RX2 TX2 8
theorem nmX2 : ∀ a, a < 8 → ∀ b, b < 8 → a ≠ b → (TX2 a).2.1 ≠ (TX2 b).2.1 := by decide +kernel
theorem tyX2_ok : ∀ k, k < 8 → parseFieldDescriptor (TX2 k).2.2.1 = some (tyX2 k) := by decide +kernel
abbrev cX2_init : ByteArray := prog_4_method_1_code
def yX2_init : MethodName := ⟨RX2, "<init>", "()V"⟩
abbrev cX2_become : ByteArray := prog_4_method_2_code
def yX2_become : MethodName := ⟨RX2, "become", "(LOpenWhileItRains$Market;)V"⟩
abbrev cX2_has : ByteArray := prog_4_method_3_code
def yX2_has : MethodName := ⟨RX2, "has", "(I)Z"⟩
abbrev cX2_add : ByteArray := prog_4_method_4_code
def yX2_add : MethodName := ⟨RX2, "add", "(III)Z"⟩
abbrev cX2_shakenCount : ByteArray := prog_4_method_5_code
def yX2_shakenCount : MethodName := ⟨RX2, "shakenCount", "()I"⟩
abbrev cX2_unshaken : ByteArray := prog_4_method_6_code
def yX2_unshaken : MethodName := ⟨RX2, "unshaken", "()I"⟩
abbrev cX2_inStreet : ByteArray := prog_4_method_7_code
def yX2_inStreet : MethodName := ⟨RX2, "inStreet", "(I)I"⟩
abbrev cX2_showerLength : ByteArray := prog_4_method_8_code
def yX2_showerLength : MethodName := ⟨RX2, "showerLength", "(I)I"⟩
abbrev cX2_showerStart : ByteArray := prog_4_method_9_code
def yX2_showerStart : MethodName := ⟨RX2, "showerStart", "(I)I"⟩
abbrev cX2_wetHours : ByteArray := prog_4_method_10_code
def yX2_wetHours : MethodName := ⟨RX2, "wetHours", "(I)I"⟩
abbrev cX2_allRain : ByteArray := prog_4_method_11_code
def yX2_allRain : MethodName := ⟨RX2, "allRain", "(I)I"⟩
abbrev cX2_shutHours : ByteArray := prog_4_method_12_code
def yX2_shutHours : MethodName := ⟨RX2, "shutHours", "()I"⟩
abbrev cX2_rainAt : ByteArray := prog_4_method_13_code
def yX2_rainAt : MethodName := ⟨RX2, "rainAt", "(II)I"⟩
def RX3 : String := "OpenWhileItRains$Plan"
def TX3 : u_T := fun k => match k with
  | 0 => ("OpenWhileItRains$Plan", "one", "LOpenWhileItRains$Case;", true)
  | 1 => ("OpenWhileItRains$Plan", "rain", "[I", true)
  | 2 => ("OpenWhileItRains$Plan", "byNumbers", "[I", true)
  | 3 => ("OpenWhileItRains$Plan", "gain", "I", false)
  | 4 => ("OpenWhileItRains$Plan", "dealt", "I", false)
  | 5 => ("OpenWhileItRains$Plan", "last", "I", false)
  | 6 => ("OpenWhileItRains$Plan", "leftOut", "I", false)
  | 7 => ("OpenWhileItRains$Plan", "needs", "[I", true)
  | 8 => ("OpenWhileItRains$Plan", "takes", "[I", true)
  | 9 => ("OpenWhileItRains$Plan", "worths", "[I", true)
  | 10 => ("OpenWhileItRains$Plan", "ends", "[I", true)
  | 11 => ("OpenWhileItRains$Plan", "left", "I", false)
  | 12 => ("OpenWhileItRains$Plan", "done", "I", false)
  | 13 => ("OpenWhileItRains$Plan", "most", "I", false)
  | 14 => ("OpenWhileItRains$Plan", "order", "I", false)
  | 15 => ("OpenWhileItRains$Plan", "wateredPlace", "I", false)
  | _ => ("OpenWhileItRains$Plan", "wateredGain", "I", false)
def tyX3 : Nat → FieldType := fun k => match k with
  | 0 => .object "OpenWhileItRains$Case"
  | 1 => .array .int
  | 2 => .array .int
  | 3 => .int
  | 4 => .int
  | 5 => .int
  | 6 => .int
  | 7 => .array .int
  | 8 => .array .int
  | 9 => .array .int
  | 10 => .array .int
  | 11 => .int
  | 12 => .int
  | 13 => .int
  | 14 => .int
  | 15 => .int
  | _ => .int
abbrev wsX30 : List Cond := u_ws RX3 TX3 17
theorem nmX3 : ∀ a, a < 17 → ∀ b, b < 17 → a ≠ b → (TX3 a).2.1 ≠ (TX3 b).2.1 := by decide +kernel
theorem tyX3_ok : ∀ k, k < 17 → parseFieldDescriptor (TX3 k).2.2.1 = some (tyX3 k) := by decide +kernel
abbrev cX3_init : ByteArray := prog_5_method_1_code
def yX3_init : MethodName := ⟨RX3, "<init>", "()V"⟩
abbrev cX3_useRain : ByteArray := prog_5_method_2_code
def yX3_useRain : MethodName := ⟨RX3, "useRain", "([I)V"⟩
abbrev cX3_draw : ByteArray := prog_5_method_3_code
def yX3_draw : MethodName := ⟨RX3, "draw", "(I)V"⟩
abbrev cX3_run : ByteArray := prog_5_method_4_code
def yX3_run : MethodName := ⟨RX3, "run", "(LOpenWhileItRains$Market;[II)V"⟩
abbrev cX3_lineUp : ByteArray := prog_5_method_5_code
def yX3_lineUp : MethodName := ⟨RX3, "lineUp", "(LOpenWhileItRains$Market;)I"⟩
abbrev cX3_prepare : ByteArray := prog_5_method_6_code
def yX3_prepare : MethodName := ⟨RX3, "prepare", "(LOpenWhileItRains$Market;)V"⟩
abbrev cX3_seek : ByteArray := prog_5_method_7_code
def yX3_seek : MethodName := ⟨RX3, "seek", "(II)I"⟩
abbrev cX3_leave : ByteArray := prog_5_method_8_code
def yX3_leave : MethodName := ⟨RX3, "leave", "(I)I"⟩
abbrev cX3_waterAll : ByteArray := prog_5_method_9_code
def yX3_waterAll : MethodName := ⟨RX3, "waterAll", "(LOpenWhileItRains$Market;)V"⟩
abbrev cX3_waterOne : ByteArray := prog_5_method_10_code
def yX3_waterOne : MethodName := ⟨RX3, "waterOne", "(LOpenWhileItRains$Market;III)V"⟩
abbrev cX3_learn : ByteArray := prog_5_method_11_code
def yX3_learn : MethodName := ⟨RX3, "learn", "(LOpenWhileItRains$Market;II)V"⟩
abbrev cX3_fillEnds : ByteArray := prog_5_method_12_code
def yX3_fillEnds : MethodName := ⟨RX3, "fillEnds", "(LOpenWhileItRains$Market;I)V"⟩
abbrev cX3_fillRow : ByteArray := prog_5_method_13_code
def yX3_fillRow : MethodName := ⟨RX3, "fillRow", "(I)V"⟩
abbrev cX3_walk : ByteArray := prog_5_method_14_code
def yX3_walk : MethodName := ⟨RX3, "walk", "(IIIIII)V"⟩
abbrev cX3_entry : ByteArray := prog_5_method_15_code
def yX3_entry : MethodName := ⟨RX3, "entry", "(III)I"⟩
def RX4 : String := "OpenWhileItRains$Reader"
def TX4 : u_T := fun k => match k with
  | 0 => ("OpenWhileItRains$Reader", "size", "I", false)
  | 1 => ("OpenWhileItRains$Reader", "fault", "I", false)
  | 2 => ("OpenWhileItRains$Reader", "tape", "[I", true)
  | 3 => ("OpenWhileItRains$Reader", "tokens", "[I", true)
  | 4 => ("OpenWhileItRains$Reader", "places", "[I", true)
  | 5 => ("OpenWhileItRains$Reader", "meanings", "[I", true)
  | 6 => ("OpenWhileItRains$Reader", "tokenCount", "I", false)
  | 7 => ("OpenWhileItRains$Reader", "now", "I", false)
  | 8 => ("OpenWhileItRains$Reader", "code", "[I", true)
  | 9 => ("OpenWhileItRains$Reader", "starts", "[I", true)
  | _ => ("OpenWhileItRains$Reader", "length", "I", false)
def tyX4 : Nat → FieldType := fun k => match k with
  | 0 => .int
  | 1 => .int
  | 2 => .array .int
  | 3 => .array .int
  | 4 => .array .int
  | 5 => .array .int
  | 6 => .int
  | 7 => .int
  | 8 => .array .int
  | 9 => .array .int
  | _ => .int
abbrev wsX40 : List Cond := u_ws RX4 TX4 11
theorem nmX4 : ∀ a, a < 11 → ∀ b, b < 11 → a ≠ b → (TX4 a).2.1 ≠ (TX4 b).2.1 := by decide +kernel
theorem tyX4_ok : ∀ k, k < 11 → parseFieldDescriptor (TX4 k).2.2.1 = some (tyX4 k) := by decide +kernel
abbrev cX4_init : ByteArray := prog_6_method_1_code
def yX4_init : MethodName := ⟨RX4, "<init>", "()V"⟩
abbrev cX4_append : ByteArray := prog_6_method_2_code
def yX4_append : MethodName := ⟨RX4, "append", "(I)Z"⟩
abbrev cX4_read : ByteArray := prog_6_method_3_code
def yX4_read : MethodName := ⟨RX4, "read", "(I)LOpenWhileItRains$Text;"⟩
abbrev cX4_scan : ByteArray := prog_6_method_4_code
def yX4_scan : MethodName := ⟨RX4, "scan", "()V"⟩
abbrev cX4_scanOne : ByteArray := prog_6_method_5_code
def yX4_scanOne : MethodName := ⟨RX4, "scanOne", "(I)I"⟩
abbrev cX4_scanWord : ByteArray := prog_6_method_6_code
def yX4_scanWord : MethodName := ⟨RX4, "scanWord", "(I)I"⟩
abbrev cX4_scanNumber : ByteArray := prog_6_method_7_code
def yX4_scanNumber : MethodName := ⟨RX4, "scanNumber", "(I)I"⟩
abbrev cX4_wordNumber : ByteArray := prog_6_method_8_code
def yX4_wordNumber : MethodName := ⟨RX4, "wordNumber", "(II)I"⟩
abbrev cX4_wordLetter : ByteArray := prog_6_method_9_code
def yX4_wordLetter : MethodName := ⟨RX4, "wordLetter", "(I)I"⟩
abbrev cX4_addToken : ByteArray := prog_6_method_10_code
def yX4_addToken : MethodName := ⟨RX4, "addToken", "(III)V"⟩
abbrev cX4_byteAt : ByteArray := prog_6_method_11_code
def yX4_byteAt : MethodName := ⟨RX4, "byteAt", "(I)I"⟩
abbrev cX4_isLetter : ByteArray := prog_6_method_12_code
def yX4_isLetter : MethodName := ⟨RX4, "isLetter", "(I)Z"⟩
abbrev cX4_isDigit : ByteArray := prog_6_method_13_code
def yX4_isDigit : MethodName := ⟨RX4, "isDigit", "(I)Z"⟩
abbrev cX4_isSign : ByteArray := prog_6_method_14_code
def yX4_isSign : MethodName := ⟨RX4, "isSign", "(I)Z"⟩
abbrev cX4_token : ByteArray := prog_6_method_15_code
def yX4_token : MethodName := ⟨RX4, "token", "()I"⟩
abbrev cX4_fail : ByteArray := prog_6_method_16_code
def yX4_fail : MethodName := ⟨RX4, "fail", "()V"⟩
abbrev cX4_expect : ByteArray := prog_6_method_17_code
def yX4_expect : MethodName := ⟨RX4, "expect", "(I)V"⟩
abbrev cX4_emit : ByteArray := prog_6_method_18_code
def yX4_emit : MethodName := ⟨RX4, "emit", "(I)V"⟩
abbrev cX4_readOr : ByteArray := prog_6_method_19_code
def yX4_readOr : MethodName := ⟨RX4, "readOr", "(I)V"⟩
abbrev cX4_readAnd : ByteArray := prog_6_method_20_code
def yX4_readAnd : MethodName := ⟨RX4, "readAnd", "(I)V"⟩
abbrev cX4_readNot : ByteArray := prog_6_method_21_code
def yX4_readNot : MethodName := ⟨RX4, "readNot", "(I)V"⟩
abbrev cX4_readSum : ByteArray := prog_6_method_22_code
def yX4_readSum : MethodName := ⟨RX4, "readSum", "(I)V"⟩
abbrev cX4_readTerm : ByteArray := prog_6_method_23_code
def yX4_readTerm : MethodName := ⟨RX4, "readTerm", "(I)V"⟩
abbrev cX4_readOne : ByteArray := prog_6_method_24_code
def yX4_readOne : MethodName := ⟨RX4, "readOne", "(I)V"⟩
def RX5 : String := "OpenWhileItRains$Row"
def TX5 : u_T := fun k => match k with
  | 0 => ("OpenWhileItRains$Row", "items", "[I", true)
  | 1 => ("OpenWhileItRains$Row", "sort", "I", false)
  | _ => ("OpenWhileItRains$Row", "size", "I", false)
def tyX5 : Nat → FieldType := fun k => match k with
  | 0 => .array .int
  | 1 => .int
  | _ => .int
abbrev wsX50 : List Cond := u_ws RX5 TX5 3
theorem nmX5 : ∀ a, a < 3 → ∀ b, b < 3 → a ≠ b → (TX5 a).2.1 ≠ (TX5 b).2.1 := by decide +kernel
theorem tyX5_ok : ∀ k, k < 3 → parseFieldDescriptor (TX5 k).2.2.1 = some (tyX5 k) := by decide +kernel
abbrev cX5_init : ByteArray := prog_7_method_1_code
def yX5_init : MethodName := ⟨RX5, "<init>", "()V"⟩
abbrev cX5_renew : ByteArray := prog_7_method_2_code
def yX5_renew : MethodName := ⟨RX5, "renew", "(II)V"⟩
abbrev cX5_read : ByteArray := prog_7_method_3_code
def yX5_read : MethodName := ⟨RX5, "read", "(I)I"⟩
abbrev cX5_write : ByteArray := prog_7_method_4_code
def yX5_write : MethodName := ⟨RX5, "write", "(II)Z"⟩
abbrev cX5_spans : ByteArray := prog_7_method_5_code
def yX5_spans : MethodName := ⟨RX5, "spans", "(II)Z"⟩
def RX6 : String := "OpenWhileItRains$Text"
def TX6 : u_T := fun k => match k with
  | 0 => ("OpenWhileItRains$Text", "number", "I", true)
  | 1 => ("OpenWhileItRains$Text", "code", "[I", true)
  | 2 => ("OpenWhileItRains$Text", "starts", "[I", true)
  | _ => ("OpenWhileItRains$Text", "stack", "[I", true)
def tyX6 : Nat → FieldType := fun k => match k with
  | 0 => .int
  | 1 => .array .int
  | 2 => .array .int
  | _ => .array .int
abbrev wsX60 : List Cond := u_ws RX6 TX6 4
theorem nmX6 : ∀ a, a < 4 → ∀ b, b < 4 → a ≠ b → (TX6 a).2.1 ≠ (TX6 b).2.1 := by decide +kernel
theorem tyX6_ok : ∀ k, k < 4 → parseFieldDescriptor (TX6 k).2.2.1 = some (tyX6 k) := by decide +kernel
abbrev cX6_init : ByteArray := prog_8_method_1_code
def yX6_init : MethodName := ⟨RX6, "<init>", "(I[I[I)V"⟩
abbrev cX6_tell : ByteArray := prog_8_method_2_code
def yX6_tell : MethodName := ⟨RX6, "tell", "(I[I)I"⟩
abbrev cX6_joined : ByteArray := prog_8_method_3_code
def yX6_joined : MethodName := ⟨RX6, "joined", "(III)I"⟩
def RX7 : String := "OpenWhileItRains"
def TX7 : u_T := fun k => match k with
  | 0 => ("OpenWhileItRains", "market", "LOpenWhileItRains$Market;", true)
  | 1 => ("OpenWhileItRains", "kept", "LOpenWhileItRains$Market;", true)
  | 2 => ("OpenWhileItRains", "isKept", "Z", false)
  | 3 => ("OpenWhileItRains", "reader", "LOpenWhileItRains$Reader;", true)
  | 4 => ("OpenWhileItRains", "texts", "[LOpenWhileItRains$Text;", true)
  | 5 => ("OpenWhileItRains", "textCount", "I", false)
  | 6 => ("OpenWhileItRains", "rows", "[LOpenWhileItRains$Row;", true)
  | 7 => ("OpenWhileItRains", "one", "LOpenWhileItRains$Case;", true)
  | 8 => ("OpenWhileItRains", "plan", "LOpenWhileItRains$Plan;", true)
  | _ => ("OpenWhileItRains", "guess", "[I", true)
def tyX7 : Nat → FieldType := fun k => match k with
  | 0 => .object "OpenWhileItRains$Market"
  | 1 => .object "OpenWhileItRains$Market"
  | 2 => .boolean
  | 3 => .object "OpenWhileItRains$Reader"
  | 4 => .array (.object "OpenWhileItRains$Text")
  | 5 => .int
  | 6 => .array (.object "OpenWhileItRains$Row")
  | 7 => .object "OpenWhileItRains$Case"
  | 8 => .object "OpenWhileItRains$Plan"
  | _ => .array .int
abbrev wsX70 : List Cond := u_ws RX7 TX7 10
theorem nmX7 : ∀ a, a < 10 → ∀ b, b < 10 → a ≠ b → (TX7 a).2.1 ≠ (TX7 b).2.1 := by decide +kernel
theorem tyX7_ok : ∀ k, k < 10 → parseFieldDescriptor (TX7 k).2.2.1 = some (tyX7 k) := by decide +kernel
abbrev cX7_init : ByteArray := prog_1_method_1_code
def yX7_init : MethodName := ⟨RX7, "<init>", "()V"⟩
abbrev cX7_set : ByteArray := prog_1_method_2_code
def yX7_set : MethodName := ⟨RX7, "set", "(III)I"⟩
abbrev cX7_bargain : ByteArray := prog_1_method_3_code
def yX7_bargain : MethodName := ⟨RX7, "bargain", "(III)I"⟩
abbrev cX7_told : ByteArray := prog_1_method_4_code
def yX7_told : MethodName := ⟨RX7, "told", "(II)I"⟩
abbrev cX7_asks : ByteArray := prog_1_method_5_code
def yX7_asks : MethodName := ⟨RX7, "asks", "(III)I"⟩
abbrev cX7_feed : ByteArray := prog_1_method_6_code
def yX7_feed : MethodName := ⟨RX7, "feed", "(I)I"⟩
abbrev cX7_text : ByteArray := prog_1_method_7_code
def yX7_text : MethodName := ⟨RX7, "text", "()I"⟩
abbrev cX7_force : ByteArray := prog_1_method_8_code
def yX7_force : MethodName := ⟨RX7, "force", "(I)I"⟩
abbrev cX7_tour : ByteArray := prog_1_method_9_code
def yX7_tour : MethodName := ⟨RX7, "tour", "(II)I"⟩
abbrev cX7_deal : ByteArray := prog_1_method_10_code
def yX7_deal : MethodName := ⟨RX7, "deal", "(I)I"⟩
abbrev cX7_best : ByteArray := prog_1_method_11_code
def yX7_best : MethodName := ⟨RX7, "best", "(I)I"⟩
abbrev cX7_few : ByteArray := prog_1_method_12_code
def yX7_few : MethodName := ⟨RX7, "few", "(I)I"⟩
abbrev cX7_water : ByteArray := prog_1_method_13_code
def yX7_water : MethodName := ⟨RX7, "water", "(I)I"⟩
abbrev cX7_sky : ByteArray := prog_1_method_14_code
def yX7_sky : MethodName := ⟨RX7, "sky", "(II)I"⟩
abbrev cX7_tells : ByteArray := prog_1_method_15_code
def yX7_tells : MethodName := ⟨RX7, "tells", "(III)I"⟩
abbrev cX7_film : ByteArray := prog_1_method_16_code
def yX7_film : MethodName := ⟨RX7, "film", "(III)I"⟩
abbrev cX7_drawn : ByteArray := prog_1_method_17_code
def yX7_drawn : MethodName := ⟨RX7, "drawn", "(I)I"⟩
abbrev cX7_chance : ByteArray := prog_1_method_18_code
def yX7_chance : MethodName := ⟨RX7, "chance", "(IIII)J"⟩
abbrev cX7_image : ByteArray := prog_1_method_19_code
def yX7_image : MethodName := ⟨RX7, "image", "()I"⟩
abbrev cX7_back : ByteArray := prog_1_method_20_code
def yX7_back : MethodName := ⟨RX7, "back", "()I"⟩
abbrev cX7_count : ByteArray := prog_1_method_21_code
def yX7_count : MethodName := ⟨RX7, "count", "(I)I"⟩
abbrev cX7_sheet : ByteArray := prog_1_method_22_code
def yX7_sheet : MethodName := ⟨RX7, "sheet", "(III)I"⟩
abbrev cX7_cell : ByteArray := prog_1_method_23_code
def yX7_cell : MethodName := ⟨RX7, "cell", "(III)I"⟩
abbrev cX7_copy : ByteArray := prog_1_method_24_code
def yX7_copy : MethodName := ⟨RX7, "copy", "(IIIII)I"⟩
abbrev cX7_bargains : ByteArray := prog_1_method_25_code
def yX7_bargains : MethodName := ⟨RX7, "bargains", "(IIII)I"⟩
abbrev cX7_taken : ByteArray := prog_1_method_26_code
def yX7_taken : MethodName := ⟨RX7, "taken", "(II)I"⟩
abbrev cX7_rowAt : ByteArray := prog_1_method_27_code
def yX7_rowAt : MethodName := ⟨RX7, "rowAt", "(I)LOpenWhileItRains$Row;"⟩
abbrev cX7_textAt : ByteArray := prog_1_method_28_code
def yX7_textAt : MethodName := ⟨RX7, "textAt", "(I)LOpenWhileItRains$Text;"⟩
abbrev cX7_keepText : ByteArray := prog_1_method_29_code
def yX7_keepText : MethodName := ⟨RX7, "keepText", "(LOpenWhileItRains$Text;)V"⟩
abbrev cX7_ruleNumber : ByteArray := prog_1_method_30_code
def yX7_ruleNumber : MethodName := ⟨RX7, "ruleNumber", "()I"⟩
abbrev cX7_tourRefusal : ByteArray := prog_1_method_31_code
def yX7_tourRefusal : MethodName := ⟨RX7, "tourRefusal", "(LOpenWhileItRains$Row;)I"⟩
abbrev cX7_canTell : ByteArray := prog_1_method_32_code
def yX7_canTell : MethodName := ⟨RX7, "canTell", "(I)Z"⟩
abbrev cX7_fitting : ByteArray := prog_1_method_33_code
def yX7_fitting : MethodName := ⟨RX7, "fitting", "(LOpenWhileItRains$Row;II)I"⟩
abbrev cX7_choicesOf : ByteArray := prog_1_method_34_code
def yX7_choicesOf : MethodName := ⟨RX7, "choicesOf", "(I)I"⟩
abbrev cX7_suppose : ByteArray := prog_1_method_35_code
def yX7_suppose : MethodName := ⟨RX7, "suppose", "(III)V"⟩
abbrev cX7_rainPlace : ByteArray := prog_1_method_36_code
def yX7_rainPlace : MethodName := ⟨RX7, "rainPlace", "(I)I"⟩
abbrev cX7_commonDivisor : ByteArray := prog_1_method_37_code
def yX7_commonDivisor : MethodName := ⟨RX7, "commonDivisor", "(II)I"⟩
abbrev cX7_at : ByteArray := prog_1_method_38_code
def yX7_at : MethodName := ⟨RX7, "at", "([II)I"⟩
abbrev cX7_put : ByteArray := prog_1_method_39_code
def yX7_put : MethodName := ⟨RX7, "put", "([III)V"⟩
abbrev cX7_hasBit : ByteArray := prog_1_method_40_code
def yX7_hasBit : MethodName := ⟨RX7, "hasBit", "(II)Z"⟩
abbrev cX7_bound : ByteArray := prog_1_method_41_code
def yX7_bound : MethodName := ⟨RX7, "bound", "(III)I"⟩
def RX8 : String := "OpenWhileItRainsModel"
def TX8 : u_T := fun k => match k with
  | 0 => ("OpenWhileItRainsModel", "thrown", "I", false)
  | 1 => ("OpenWhileItRainsModel", "texts", "[I", true)
  | 2 => ("OpenWhileItRainsModel", "textSize", "[I", true)
  | 3 => ("OpenWhileItRainsModel", "textCount", "I", false)
  | 4 => ("OpenWhileItRainsModel", "rule", "I", false)
  | 5 => ("OpenWhileItRainsModel", "tape", "[I", true)
  | 6 => ("OpenWhileItRainsModel", "taped", "I", false)
  | 7 => ("OpenWhileItRainsModel", "westNow", "I", false)
  | 8 => ("OpenWhileItRainsModel", "rains", "[I", true)
  | 9 => ("OpenWhileItRainsModel", "kinds", "[I", true)
  | 10 => ("OpenWhileItRainsModel", "rows", "[I", true)
  | 11 => ("OpenWhileItRainsModel", "many", "I", false)
  | 12 => ("OpenWhileItRainsModel", "ofRain", "I", false)
  | 13 => ("OpenWhileItRainsModel", "ofHour", "I", false)
  | 14 => ("OpenWhileItRainsModel", "ofNumber", "I", false)
  | 15 => ("OpenWhileItRainsModel", "ofDone", "I", false)
  | 16 => ("OpenWhileItRainsModel", "ofStreet", "I", false)
  | 17 => ("OpenWhileItRainsModel", "ofWest", "I", false)
  | 18 => ("OpenWhileItRainsModel", "from", "I", false)
  | 19 => ("OpenWhileItRainsModel", "size", "I", false)
  | 20 => ("OpenWhileItRainsModel", "here", "I", false)
  | 21 => ("OpenWhileItRainsModel", "token", "I", false)
  | 22 => ("OpenWhileItRainsModel", "tokenAt", "I", false)
  | 23 => ("OpenWhileItRainsModel", "tokenWorth", "J", false)
  | 24 => ("OpenWhileItRainsModel", "open", "I", false)
  | 25 => ("OpenWhileItRainsModel", "bad", "Z", false)
  | 26 => ("OpenWhileItRainsModel", "fault", "I", false)
  | 27 => ("OpenWhileItRainsModel", "gained", "I", false)
  | 28 => ("OpenWhileItRainsModel", "dealtMany", "I", false)
  | 29 => ("OpenWhileItRainsModel", "lastHour", "I", false)
  | 30 => ("OpenWhileItRainsModel", "outSet", "I", false)
  | 31 => ("OpenWhileItRainsModel", "dealtSet", "I", false)
  | 32 => ("OpenWhileItRainsModel", "bestDigits", "I", false)
  | 33 => ("OpenWhileItRainsModel", "bestGain", "I", false)
  | 34 => ("OpenWhileItRainsModel", "rainsWas", "[I", true)
  | 35 => ("OpenWhileItRainsModel", "rainsKept", "[I", true)
  | 36 => ("OpenWhileItRainsModel", "rowsKept", "[I", true)
  | 37 => ("OpenWhileItRainsModel", "manyKept", "I", false)
  | 38 => ("OpenWhileItRainsModel", "westKept", "I", false)
  | 39 => ("OpenWhileItRainsModel", "ruleKept", "I", false)
  | 40 => ("OpenWhileItRainsModel", "isThere", "[Z", true)
  | 41 => ("OpenWhileItRainsModel", "sorts", "[I", true)
  | 42 => ("OpenWhileItRainsModel", "sheetSize", "[I", true)
  | _ => ("OpenWhileItRainsModel", "items", "[I", true)
def tyX8 : Nat → FieldType := fun k => match k with
  | 0 => .int
  | 1 => .array .int
  | 2 => .array .int
  | 3 => .int
  | 4 => .int
  | 5 => .array .int
  | 6 => .int
  | 7 => .int
  | 8 => .array .int
  | 9 => .array .int
  | 10 => .array .int
  | 11 => .int
  | 12 => .int
  | 13 => .int
  | 14 => .int
  | 15 => .int
  | 16 => .int
  | 17 => .int
  | 18 => .int
  | 19 => .int
  | 20 => .int
  | 21 => .int
  | 22 => .int
  | 23 => .long
  | 24 => .int
  | 25 => .boolean
  | 26 => .int
  | 27 => .int
  | 28 => .int
  | 29 => .int
  | 30 => .int
  | 31 => .int
  | 32 => .int
  | 33 => .int
  | 34 => .array .int
  | 35 => .array .int
  | 36 => .array .int
  | 37 => .int
  | 38 => .int
  | 39 => .int
  | 40 => .array .boolean
  | 41 => .array .int
  | 42 => .array .int
  | _ => .array .int
abbrev wsX80 : List Cond := u_ws RX8 TX8 44
theorem nmX8 : ∀ a, a < 44 → ∀ b, b < 44 → a ≠ b → (TX8 a).2.1 ≠ (TX8 b).2.1 := by decide +kernel
theorem tyX8_ok : ∀ k, k < 44 → parseFieldDescriptor (TX8 k).2.2.1 = some (tyX8 k) := by decide +kernel
abbrev cX8_in : ByteArray := prog_10_method_2_code
def yX8_in : MethodName := ⟨RX8, "in", "(JJJ)Z"⟩
abbrev cX8_within : ByteArray := prog_10_method_3_code
def yX8_within : MethodName := ⟨RX8, "within", "(III)I"⟩
abbrev cX8_init : ByteArray := prog_10_method_4_code
def yX8_init : MethodName := ⟨RX8, "<init>", "()V"⟩
abbrev cX8_spell : ByteArray := prog_10_method_5_code
def yX8_spell : MethodName := ⟨RX8, "spell", "(IIIIIIIII)V"⟩
abbrev cX8_isOne : ByteArray := prog_10_method_6_code
def yX8_isOne : MethodName := ⟨RX8, "isOne", "(I)Z"⟩
abbrev cX8_isHour : ByteArray := prog_10_method_7_code
def yX8_isHour : MethodName := ⟨RX8, "isHour", "(I)Z"⟩
abbrev cX8_placeOf : ByteArray := prog_10_method_8_code
def yX8_placeOf : MethodName := ⟨RX8, "placeOf", "(I)I"⟩
abbrev cX8_isOf : ByteArray := prog_10_method_9_code
def yX8_isOf : MethodName := ⟨RX8, "isOf", "(II)Z"⟩
abbrev cX8_mostOf : ByteArray := prog_10_method_10_code
def yX8_mostOf : MethodName := ⟨RX8, "mostOf", "(I)I"⟩
abbrev cX8_set : ByteArray := prog_10_method_11_code
def yX8_set : MethodName := ⟨RX8, "set", "(III)I"⟩
abbrev cX8_lays : ByteArray := prog_10_method_12_code
def yX8_lays : MethodName := ⟨RX8, "lays", "(III)V"⟩
abbrev cX8_bargain : ByteArray := prog_10_method_13_code
def yX8_bargain : MethodName := ⟨RX8, "bargain", "(III)I"⟩
abbrev cX8_told : ByteArray := prog_10_method_14_code
def yX8_told : MethodName := ⟨RX8, "told", "(II)I"⟩
abbrev cX8_feed : ByteArray := prog_10_method_15_code
def yX8_feed : MethodName := ⟨RX8, "feed", "(I)I"⟩
abbrev cX8_byteAt : ByteArray := prog_10_method_16_code
def yX8_byteAt : MethodName := ⟨RX8, "byteAt", "(I)I"⟩
abbrev cX8_next : ByteArray := prog_10_method_17_code
def yX8_next : MethodName := ⟨RX8, "next", "()V"⟩
abbrev cX8_fail : ByteArray := prog_10_method_18_code
def yX8_fail : MethodName := ⟨RX8, "fail", "()V"⟩
abbrev cX8_isLetter : ByteArray := prog_10_method_19_code
def yX8_isLetter : MethodName := ⟨RX8, "isLetter", "(II)Z"⟩
abbrev cX8_isWord : ByteArray := prog_10_method_20_code
def yX8_isWord : MethodName := ⟨RX8, "isWord", "(IIIIIIII)Z"⟩
abbrev cX8_isSign : ByteArray := prog_10_method_21_code
def yX8_isSign : MethodName := ⟨RX8, "isSign", "(I)Z"⟩
abbrev cX8_opens : ByteArray := prog_10_method_22_code
def yX8_opens : MethodName := ⟨RX8, "opens", "()Z"⟩
abbrev cX8_name : ByteArray := prog_10_method_23_code
def yX8_name : MethodName := ⟨RX8, "name", "()I"⟩
abbrev cX8_atom : ByteArray := prog_10_method_24_code
def yX8_atom : MethodName := ⟨RX8, "atom", "()I"⟩
abbrev cX8_term : ByteArray := prog_10_method_25_code
def yX8_term : MethodName := ⟨RX8, "term", "()I"⟩
abbrev cX8_added : ByteArray := prog_10_method_26_code
def yX8_added : MethodName := ⟨RX8, "added", "()I"⟩
abbrev cX8_not : ByteArray := prog_10_method_27_code
def yX8_not : MethodName := ⟨RX8, "not", "()I"⟩
abbrev cX8_both : ByteArray := prog_10_method_28_code
def yX8_both : MethodName := ⟨RX8, "both", "()I"⟩
abbrev cX8_either : ByteArray := prog_10_method_29_code
def yX8_either : MethodName := ⟨RX8, "either", "()I"⟩
abbrev cX8_part : ByteArray := prog_10_method_30_code
def yX8_part : MethodName := ⟨RX8, "part", "(Z)I"⟩
abbrev cX8_read : ByteArray := prog_10_method_31_code
def yX8_read : MethodName := ⟨RX8, "read", "(II)I"⟩
abbrev cX8_text : ByteArray := prog_10_method_32_code
def yX8_text : MethodName := ⟨RX8, "text", "()I"⟩
abbrev cX8_force : ByteArray := prog_10_method_33_code
def yX8_force : MethodName := ⟨RX8, "force", "(I)I"⟩
abbrev cX8_isShaken : ByteArray := prog_10_method_34_code
def yX8_isShaken : MethodName := ⟨RX8, "isShaken", "(I)Z"⟩
abbrev cX8_shakenMany : ByteArray := prog_10_method_35_code
def yX8_shakenMany : MethodName := ⟨RX8, "shakenMany", "()I"⟩
abbrev cX8_rainOf : ByteArray := prog_10_method_36_code
def yX8_rainOf : MethodName := ⟨RX8, "rainOf", "(II)I"⟩
abbrev cX8_says : ByteArray := prog_10_method_37_code
def yX8_says : MethodName := ⟨RX8, "says", "(IIII)I"⟩
abbrev cX8_needsOf : ByteArray := prog_10_method_38_code
def yX8_needsOf : MethodName := ⟨RX8, "needsOf", "(III)I"⟩
abbrev cX8_takesOf : ByteArray := prog_10_method_39_code
def yX8_takesOf : MethodName := ⟨RX8, "takesOf", "(III)I"⟩
abbrev cX8_worthOf : ByteArray := prog_10_method_40_code
def yX8_worthOf : MethodName := ⟨RX8, "worthOf", "(III)I"⟩
abbrev cX8_holds : ByteArray := prog_10_method_41_code
def yX8_holds : MethodName := ⟨RX8, "holds", "(III)Z"⟩
abbrev cX8_shakes : ByteArray := prog_10_method_42_code
def yX8_shakes : MethodName := ⟨RX8, "shakes", "(III)I"⟩
abbrev cX8_asks : ByteArray := prog_10_method_43_code
def yX8_asks : MethodName := ⟨RX8, "asks", "(III)I"⟩
abbrev cX8_begins : ByteArray := prog_10_method_44_code
def yX8_begins : MethodName := ⟨RX8, "begins", "()V"⟩
abbrev cX8_deals : ByteArray := prog_10_method_45_code
def yX8_deals : MethodName := ⟨RX8, "deals", "(I)V"⟩
abbrev cX8_tourBad : ByteArray := prog_10_method_46_code
def yX8_tourBad : MethodName := ⟨RX8, "tourBad", "(I)I"⟩
abbrev cX8_goes : ByteArray := prog_10_method_47_code
def yX8_goes : MethodName := ⟨RX8, "goes", "(I)V"⟩
abbrev cX8_tour : ByteArray := prog_10_method_48_code
def yX8_tour : MethodName := ⟨RX8, "tour", "(II)I"⟩
abbrev cX8_deal : ByteArray := prog_10_method_49_code
def yX8_deal : MethodName := ⟨RX8, "deal", "(I)I"⟩
abbrev cX8_looks : ByteArray := prog_10_method_50_code
def yX8_looks : MethodName := ⟨RX8, "looks", "(IIIIII)V"⟩
abbrev cX8_openSet : ByteArray := prog_10_method_51_code
def yX8_openSet : MethodName := ⟨RX8, "openSet", "()I"⟩
abbrev cX8_bestOf : ByteArray := prog_10_method_52_code
def yX8_bestOf : MethodName := ⟨RX8, "bestOf", "(II)I"⟩
abbrev cX8_leaves : ByteArray := prog_10_method_53_code
def yX8_leaves : MethodName := ⟨RX8, "leaves", "()I"⟩
abbrev cX8_best : ByteArray := prog_10_method_54_code
def yX8_best : MethodName := ⟨RX8, "best", "(I)I"⟩
abbrev cX8_few : ByteArray := prog_10_method_55_code
def yX8_few : MethodName := ⟨RX8, "few", "(I)I"⟩
abbrev cX8_water : ByteArray := prog_10_method_56_code
def yX8_water : MethodName := ⟨RX8, "water", "(I)I"⟩
abbrev cX8_wetMany : ByteArray := prog_10_method_57_code
def yX8_wetMany : MethodName := ⟨RX8, "wetMany", "(I)I"⟩
abbrev cX8_sky : ByteArray := prog_10_method_58_code
def yX8_sky : MethodName := ⟨RX8, "sky", "(II)I"⟩
abbrev cX8_firstOther : ByteArray := prog_10_method_59_code
def yX8_firstOther : MethodName := ⟨RX8, "firstOther", "(III)I"⟩
abbrev cX8_tells : ByteArray := prog_10_method_60_code
def yX8_tells : MethodName := ⟨RX8, "tells", "(III)I"⟩
abbrev cX8_film : ByteArray := prog_10_method_61_code
def yX8_film : MethodName := ⟨RX8, "film", "(III)I"⟩
abbrev cX8_gainBy : ByteArray := prog_10_method_62_code
def yX8_gainBy : MethodName := ⟨RX8, "gainBy", "(I)I"⟩
abbrev cX8_drawn : ByteArray := prog_10_method_63_code
def yX8_drawn : MethodName := ⟨RX8, "drawn", "(I)I"⟩
abbrev cX8_chance : ByteArray := prog_10_method_64_code
def yX8_chance : MethodName := ⟨RX8, "chance", "(IIII)J"⟩
abbrev cX8_image : ByteArray := prog_10_method_65_code
def yX8_image : MethodName := ⟨RX8, "image", "()I"⟩
abbrev cX8_back : ByteArray := prog_10_method_66_code
def yX8_back : MethodName := ⟨RX8, "back", "()I"⟩
abbrev cX8_count : ByteArray := prog_10_method_67_code
def yX8_count : MethodName := ⟨RX8, "count", "(I)I"⟩
abbrev cX8_isSheet : ByteArray := prog_10_method_68_code
def yX8_isSheet : MethodName := ⟨RX8, "isSheet", "(I)Z"⟩
abbrev cX8_sheet : ByteArray := prog_10_method_69_code
def yX8_sheet : MethodName := ⟨RX8, "sheet", "(III)I"⟩
abbrev cX8_cell : ByteArray := prog_10_method_70_code
def yX8_cell : MethodName := ⟨RX8, "cell", "(III)I"⟩
abbrev cX8_copy : ByteArray := prog_10_method_71_code
def yX8_copy : MethodName := ⟨RX8, "copy", "(IIIII)I"⟩
abbrev cX8_bargains : ByteArray := prog_10_method_72_code
def yX8_bargains : MethodName := ⟨RX8, "bargains", "(IIII)I"⟩
abbrev cX8_over : ByteArray := prog_10_method_73_code
def yX8_over : MethodName := ⟨RX8, "over", "(I)I"⟩
abbrev cX8_taken : ByteArray := prog_10_method_74_code
def yX8_taken : MethodName := ⟨RX8, "taken", "(II)I"⟩
def RJx145de : String := "java/io/Serializable"
def TJx145de : u_T := fun k => match k with
  | _ => ("", "", "", false)
def tyJx145de : Nat → FieldType := fun k => match k with
  | _ => .int
abbrev wsJx145de0 : List Cond := u_ws RJx145de TJx145de 0
theorem nmJx145de : ∀ a, a < 0 → ∀ b, b < 0 → a ≠ b → (TJx145de a).2.1 ≠ (TJx145de b).2.1 := by decide +kernel
theorem tyJx145de_ok : ∀ k, k < 0 → parseFieldDescriptor (TJx145de k).2.2.1 = some (tyJx145de k) := by decide +kernel
def RJx9f9b0 : String := "java/lang/CharSequence"
def TJx9f9b0 : u_T := fun k => match k with
  | _ => ("", "", "", false)
def tyJx9f9b0 : Nat → FieldType := fun k => match k with
  | _ => .int
abbrev wsJx9f9b00 : List Cond := u_ws RJx9f9b0 TJx9f9b0 0
theorem nmJx9f9b0 : ∀ a, a < 0 → ∀ b, b < 0 → a ≠ b → (TJx9f9b0 a).2.1 ≠ (TJx9f9b0 b).2.1 := by decide +kernel
theorem tyJx9f9b0_ok : ∀ k, k < 0 → parseFieldDescriptor (TJx9f9b0 k).2.2.1 = some (tyJx9f9b0 k) := by decide +kernel
def RJx8e188 : String := "java/lang/Cloneable"
def TJx8e188 : u_T := fun k => match k with
  | _ => ("", "", "", false)
def tyJx8e188 : Nat → FieldType := fun k => match k with
  | _ => .int
abbrev wsJx8e1880 : List Cond := u_ws RJx8e188 TJx8e188 0
theorem nmJx8e188 : ∀ a, a < 0 → ∀ b, b < 0 → a ≠ b → (TJx8e188 a).2.1 ≠ (TJx8e188 b).2.1 := by decide +kernel
theorem tyJx8e188_ok : ∀ k, k < 0 → parseFieldDescriptor (TJx8e188 k).2.2.1 = some (tyJx8e188 k) := by decide +kernel
def RJxb160c : String := "java/lang/Comparable"
def TJxb160c : u_T := fun k => match k with
  | _ => ("", "", "", false)
def tyJxb160c : Nat → FieldType := fun k => match k with
  | _ => .int
abbrev wsJxb160c0 : List Cond := u_ws RJxb160c TJxb160c 0
theorem nmJxb160c : ∀ a, a < 0 → ∀ b, b < 0 → a ≠ b → (TJxb160c a).2.1 ≠ (TJxb160c b).2.1 := by decide +kernel
theorem tyJxb160c_ok : ∀ k, k < 0 → parseFieldDescriptor (TJxb160c k).2.2.1 = some (tyJxb160c k) := by decide +kernel
def RJ6 : String := "java/lang/Integer"
def TJ6 : u_T := fun k => match k with
  | _ => ("", "", "", false)
def tyJ6 : Nat → FieldType := fun k => match k with
  | _ => .int
abbrev wsJ60 : List Cond := u_ws RJ6 TJ6 0
theorem nmJ6 : ∀ a, a < 0 → ∀ b, b < 0 → a ≠ b → (TJ6 a).2.1 ≠ (TJ6 b).2.1 := by decide +kernel
theorem tyJ6_ok : ∀ k, k < 0 → parseFieldDescriptor (TJ6 k).2.2.1 = some (tyJ6 k) := by decide +kernel
abbrev cJ6_bitCount_0f7a4 : ByteArray := prog_12_method_49_code
def yJ6_bitCount_0f7a4 : MethodName := ⟨RJ6, "bitCount", "(I)I"⟩
def RJ9 : String := "java/lang/Math"
def TJ9 : u_T := fun k => match k with
  | _ => ("", "", "", false)
def tyJ9 : Nat → FieldType := fun k => match k with
  | _ => .int
abbrev wsJ90 : List Cond := u_ws RJ9 TJ9 0
theorem nmJ9 : ∀ a, a < 0 → ∀ b, b < 0 → a ≠ b → (TJ9 a).2.1 ≠ (TJ9 b).2.1 := by decide +kernel
theorem tyJ9_ok : ∀ k, k < 0 → parseFieldDescriptor (TJ9 k).2.2.1 = some (tyJ9 k) := by decide +kernel
abbrev cJ9_min_7cf53 : ByteArray := prog_13_method_69_code
def yJ9_min_7cf53 : MethodName := ⟨RJ9, "min", "(II)I"⟩
def RJ0 : String := "java/lang/String"
def TJ0 : u_T := fun k => match k with
  | _ => ("", "", "", false)
def tyJ0 : Nat → FieldType := fun k => match k with
  | _ => .int
abbrev wsJ00 : List Cond := u_ws RJ0 TJ0 0
theorem nmJ0 : ∀ a, a < 0 → ∀ b, b < 0 → a ≠ b → (TJ0 a).2.1 ≠ (TJ0 b).2.1 := by decide +kernel
theorem tyJ0_ok : ∀ k, k < 0 → parseFieldDescriptor (TJ0 k).2.2.1 = some (tyJ0 k) := by decide +kernel
abbrev cJ0_length_8abf5 : ByteArray := prog_14_method_54_code
def yJ0_length_8abf5 : MethodName := ⟨RJ0, "length", "()I"⟩
abbrev cJ0_charAt_5068e : ByteArray := prog_14_method_56_code
def yJ0_charAt_5068e : MethodName := ⟨RJ0, "charAt", "(I)C"⟩
abbrev cJ0_coder_7d493 : ByteArray := prog_14_method_152_code
def yJ0_coder_7d493 : MethodName := ⟨RJ0, "coder", "()B"⟩
abbrev cJ0_isLatin1_aae02 : ByteArray := prog_14_method_154_code
def yJ0_isLatin1_aae02 : MethodName := ⟨RJ0, "isLatin1", "()Z"⟩
abbrev cJ0_checkIndex_df160 : ByteArray := prog_14_method_155_code
def yJ0_checkIndex_df160 : MethodName := ⟨RJ0, "checkIndex", "(II)V"⟩
def RJ1 : String := "java/lang/StringLatin1"
def TJ1 : u_T := fun k => match k with
  | _ => ("", "", "", false)
def tyJ1 : Nat → FieldType := fun k => match k with
  | _ => .int
abbrev wsJ10 : List Cond := u_ws RJ1 TJ1 0
theorem nmJ1 : ∀ a, a < 0 → ∀ b, b < 0 → a ≠ b → (TJ1 a).2.1 ≠ (TJ1 b).2.1 := by decide +kernel
theorem tyJ1_ok : ∀ k, k < 0 → parseFieldDescriptor (TJ1 k).2.2.1 = some (tyJ1 k) := by decide +kernel
abbrev cJ1_charAt_3b067 : ByteArray := prog_15_method_2_code
def yJ1_charAt_3b067 : MethodName := ⟨RJ1, "charAt", "([BI)C"⟩
def RJ2 : String := "java/lang/StringUTF16"
def TJ2 : u_T := fun k => match k with
  | _ => ("", "", "", false)
def tyJ2 : Nat → FieldType := fun k => match k with
  | _ => .int
abbrev wsJ20 : List Cond := u_ws RJ2 TJ2 0
theorem nmJ2 : ∀ a, a < 0 → ∀ b, b < 0 → a ≠ b → (TJ2 a).2.1 ≠ (TJ2 b).2.1 := by decide +kernel
theorem tyJ2_ok : ∀ k, k < 0 → parseFieldDescriptor (TJ2 k).2.2.1 = some (tyJ2 k) := by decide +kernel
abbrev cJ2_getChar_3b067 : ByteArray := prog_16_method_5_code
def yJ2_getChar_3b067 : MethodName := ⟨RJ2, "getChar", "([BI)C"⟩
abbrev cJ2_length_9d52b : ByteArray := prog_16_method_6_code
def yJ2_length_9d52b : MethodName := ⟨RJ2, "length", "([B)I"⟩
abbrev cJ2_charAt_3b067 : ByteArray := prog_16_method_83_code
def yJ2_charAt_3b067 : MethodName := ⟨RJ2, "charAt", "([BI)C"⟩
abbrev cJ2_checkIndex_2214a : ByteArray := prog_16_method_91_code
def yJ2_checkIndex_2214a : MethodName := ⟨RJ2, "checkIndex", "(I[B)V"⟩
def RJ10 : String := "java/lang/System"
def TJ10 : u_T := fun k => match k with
  | _ => ("", "", "", false)
def tyJ10 : Nat → FieldType := fun k => match k with
  | _ => .int
abbrev wsJ100 : List Cond := u_ws RJ10 TJ10 0
theorem nmJ10 : ∀ a, a < 0 → ∀ b, b < 0 → a ≠ b → (TJ10 a).2.1 ≠ (TJ10 b).2.1 := by decide +kernel
theorem tyJ10_ok : ∀ k, k < 0 → parseFieldDescriptor (TJ10 k).2.2.1 = some (tyJ10 k) := by decide +kernel
def RJxfd54e : String := "java/lang/constant/Constable"
def TJxfd54e : u_T := fun k => match k with
  | _ => ("", "", "", false)
def tyJxfd54e : Nat → FieldType := fun k => match k with
  | _ => .int
abbrev wsJxfd54e0 : List Cond := u_ws RJxfd54e TJxfd54e 0
theorem nmJxfd54e : ∀ a, a < 0 → ∀ b, b < 0 → a ≠ b → (TJxfd54e a).2.1 ≠ (TJxfd54e b).2.1 := by decide +kernel
theorem tyJxfd54e_ok : ∀ k, k < 0 → parseFieldDescriptor (TJxfd54e k).2.2.1 = some (tyJxfd54e k) := by decide +kernel
def RJx3cf43 : String := "java/lang/constant/ConstantDesc"
def TJx3cf43 : u_T := fun k => match k with
  | _ => ("", "", "", false)
def tyJx3cf43 : Nat → FieldType := fun k => match k with
  | _ => .int
abbrev wsJx3cf430 : List Cond := u_ws RJx3cf43 TJx3cf43 0
theorem nmJx3cf43 : ∀ a, a < 0 → ∀ b, b < 0 → a ≠ b → (TJx3cf43 a).2.1 ≠ (TJx3cf43 b).2.1 := by decide +kernel
theorem tyJx3cf43_ok : ∀ k, k < 0 → parseFieldDescriptor (TJx3cf43 k).2.2.1 = some (tyJx3cf43 k) := by decide +kernel
def RJ7 : String := "java/util/Arrays"
def TJ7 : u_T := fun k => match k with
  | _ => ("", "", "", false)
def tyJ7 : Nat → FieldType := fun k => match k with
  | _ => .int
abbrev wsJ70 : List Cond := u_ws RJ7 TJ7 0
theorem nmJ7 : ∀ a, a < 0 → ∀ b, b < 0 → a ≠ b → (TJ7 a).2.1 ≠ (TJ7 b).2.1 := by decide +kernel
theorem tyJ7_ok : ∀ k, k < 0 → parseFieldDescriptor (TJ7 k).2.2.1 = some (tyJ7 k) := by decide +kernel
abbrev cJ7_fill_53178 : ByteArray := prog_18_method_103_code
def yJ7_fill_53178 : MethodName := ⟨RJ7, "fill", "([II)V"⟩
abbrev cJ7_copyOf_59c91 : ByteArray := prog_18_method_123_code
def yJ7_copyOf_59c91 : MethodName := ⟨RJ7, "copyOf", "([II)[I"⟩
def RJ3 : String := "jdk/internal/util/Preconditions"
def TJ3 : u_T := fun k => match k with
  | _ => ("", "", "", false)
def tyJ3 : Nat → FieldType := fun k => match k with
  | _ => .int
abbrev wsJ30 : List Cond := u_ws RJ3 TJ3 0
theorem nmJ3 : ∀ a, a < 0 → ∀ b, b < 0 → a ≠ b → (TJ3 a).2.1 ≠ (TJ3 b).2.1 := by decide +kernel
theorem tyJ3_ok : ∀ k, k < 0 → parseFieldDescriptor (TJ3 k).2.2.1 = some (tyJ3 k) := by decide +kernel
abbrev cJ3_checkIndex_8e157 : ByteArray := prog_19_method_11_code
def yJ3_checkIndex_8e157 : MethodName := ⟨RJ3, "checkIndex", "(IILjava/util/function/BiFunction;)I"⟩
def RL : String := "OpenWhileItRainsLaw"
abbrev cL_law : ByteArray := code
def yL_law : MethodName := ⟨RL, "law", "([I)Z"⟩
abbrev vwCl : List vw_C := [(RX0, TX0, 4), (RX2, TX2, 8), (RX3, TX3, 17), (RX4, TX4, 11), (RX5, TX5, 3), (RX6, TX6, 4), (RX7, TX7, 10), (RX8, TX8, 44)]
