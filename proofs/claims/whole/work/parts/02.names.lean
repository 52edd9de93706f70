def WA : List Cond := lw_tbl.filter goodWord
theorem wa_m {w : Cond} (h : w ∈ tables_1) (hg : goodWord w = true) : w ∈ WA := List.mem_filter.mpr ⟨List.mem_append_right _ h, hg⟩
theorem wa_p {w : Cond} (h : w ∈ k2_sels lw_privs) (hg : goodWord w = true) : w ∈ WA := List.mem_filter.mpr ⟨List.mem_append_left _ h, hg⟩
theorem wa_good {w : Cond} (h : w ∈ WA) : goodWord w = true := (List.mem_filter.mp h).2
theorem wa_tbl {w : Cond} (h : w ∈ WA) : w ∈ lw_tbl := (List.mem_filter.mp h).1
theorem gd_0 {big : List Cond} {cw : Cond} (hb : ∀ w ∈ WA, w ∈ big) (h : cw ∈ WA) : GoodIn big (cw :: WA) := fun w hw => by
  have hm : w ∈ WA := by
    rcases List.mem_cons.mp hw with e | e
    · rw [e]; exact h
    · exact e
  exact ⟨hb w hm, good_of_word (wa_good hm)⟩
theorem gd_V {big : List Cond} {own C : String} {idx : Nat} {y : MethodName} {cw : Cond} (hb : ∀ w ∈ WA, w ∈ big) (h1 : Cond.methodLink own idx y ∈ WA) (h2 : Cond.instanceMethod y ∈ WA) (h3 : Cond.selects C y y ∈ WA) (h4 : Cond.initialized C ∈ WA) (h5 : cw ∈ WA) : GoodIn big (wsV own idx C y (cw :: WA)) := fun w hw => by
  have hm : w ∈ WA := by
    rcases List.mem_append.mp hw with e | e
    · simp only [List.mem_cons, List.not_mem_nil, or_false] at e
      rcases e with rfl | rfl | rfl | rfl <;> assumption
    · rcases List.mem_cons.mp e with e | e
      · rw [e]; exact h5
      · exact e
  exact ⟨hb w hm, good_of_word (wa_good hm)⟩
theorem gd_S {big : List Cond} {own : String} {idx : Nat} {y : MethodName} {cw : Cond} (hb : ∀ w ∈ WA, w ∈ big) (h1 : Cond.methodLink own idx y ∈ WA) (h2 : Cond.static y ∈ WA) (h3 : Cond.initialized own ∈ WA) (h5 : cw ∈ WA) : GoodIn big (wsS own idx y (cw :: WA)) := fun w hw => by
  have hm : w ∈ WA := by
    rcases List.mem_append.mp hw with e | e
    · simp only [List.mem_cons, List.not_mem_nil, or_false] at e
      rcases e with rfl | rfl | rfl <;> assumption
    · rcases List.mem_cons.mp e with e | e
      · rw [e]; exact h5
      · exact e
  exact ⟨hb w hm, good_of_word (wa_good hm)⟩
theorem wa_c {x : Cond} : ∀ w ∈ WA, w ∈ x :: WA := fun _ h => List.mem_cons_of_mem _ h
def RX0 : String := "LinePair"
def TX0 : u_T := fun k => match k with
  | 0 => ("LinePair", "chief", "LLinePair$Controller;", true)
  | 1 => ("LinePair", "helper", "LLinePair$Controller;", true)
  | _ => ("LinePair", "emptyAnswers", "I", false)
def tyX0 : Nat → FieldType := fun k => match k with
  | 0 => .object "LinePair$Controller"
  | 1 => .object "LinePair$Controller"
  | _ => .int
theorem nX0 : ∀ a, a < 3 → ∀ b, b < 3 → a ≠ b → (TX0 a).2.1 ≠ (TX0 b).2.1 := by decide +kernel
theorem tyX0_ok : ∀ k, k < 3 → parseFieldDescriptor (TX0 k).2.2.1 = some (tyX0 k) := by decide +kernel
theorem u_X0 : ∀ w ∈ u_ws RX0 TX0 3, w ∈ WA := by decide +kernel
def RX1 : String := "LinePair$Controller"
def TX1 : u_T := fun k => match k with
  | 0 => ("LinePair$Controller", "nestingLine", "I", true)
  | 1 => ("LinePair$Controller", "up", "I", false)
  | 2 => ("LinePair$Controller", "requestedByEdge", "I", false)
  | 3 => ("LinePair$Controller", "inService", "I", false)
  | 4 => ("LinePair$Controller", "masked", "I", false)
  | 5 => ("LinePair$Controller", "lowest", "I", false)
  | 6 => ("LinePair$Controller", "base", "I", false)
  | 7 => ("LinePair$Controller", "awaited", "I", false)
  | 8 => ("LinePair$Controller", "readChoice", "I", false)
  | 9 => ("LinePair$Controller", "fourthFollows", "Z", false)
  | 10 => ("LinePair$Controller", "ready", "Z", false)
  | 11 => ("LinePair$Controller", "byLevels", "Z", false)
  | 12 => ("LinePair$Controller", "specialMask", "Z", false)
  | 13 => ("LinePair$Controller", "specialNesting", "Z", false)
  | 14 => ("LinePair$Controller", "endsAtOnce", "Z", false)
  | 15 => ("LinePair$Controller", "turnsAtOnce", "Z", false)
  | 16 => ("LinePair$Controller", "pollWaits", "Z", false)
  | 17 => ("LinePair$Controller", "takenLines", "I", false)
  | _ => ("LinePair$Controller", "endedLines", "I", false)
def tyX1 : Nat → FieldType := fun k => match k with
  | 0 => .int
  | 1 => .int
  | 2 => .int
  | 3 => .int
  | 4 => .int
  | 5 => .int
  | 6 => .int
  | 7 => .int
  | 8 => .int
  | 9 => .boolean
  | 10 => .boolean
  | 11 => .boolean
  | 12 => .boolean
  | 13 => .boolean
  | 14 => .boolean
  | 15 => .boolean
  | 16 => .boolean
  | 17 => .int
  | _ => .int
theorem nX1 : ∀ a, a < 19 → ∀ b, b < 19 → a ≠ b → (TX1 a).2.1 ≠ (TX1 b).2.1 := by decide +kernel
theorem tyX1_ok : ∀ k, k < 19 → parseFieldDescriptor (TX1 k).2.2.1 = some (tyX1 k) := by decide +kernel
theorem u_X1 : ∀ w ∈ u_ws RX1 TX1 19, w ∈ WA := by decide +kernel
def RX2 : String := "LinePairModel"
def TX2 : u_T := fun k => match k with
  | 0 => ("LinePairModel", "thrown", "I", false)
  | 1 => ("LinePairModel", "up", "[Z", true)
  | 2 => ("LinePairModel", "latched", "[Z", true)
  | 3 => ("LinePairModel", "served", "[Z", true)
  | 4 => ("LinePairModel", "masked", "[Z", true)
  | 5 => ("LinePairModel", "lowest", "[I", true)
  | 6 => ("LinePairModel", "bases", "[I", true)
  | 7 => ("LinePairModel", "awaited", "[I", true)
  | 8 => ("LinePairModel", "readers", "[I", true)
  | 9 => ("LinePairModel", "modes", "[Z", true)
  | 10 => ("LinePairModel", "fourth", "[Z", true)
  | 11 => ("LinePairModel", "takes", "I", false)
  | 12 => ("LinePairModel", "nothings", "I", false)
  | _ => ("LinePairModel", "ends", "I", false)
def tyX2 : Nat → FieldType := fun k => match k with
  | 0 => .int
  | 1 => .array .boolean
  | 2 => .array .boolean
  | 3 => .array .boolean
  | 4 => .array .boolean
  | 5 => .array .int
  | 6 => .array .int
  | 7 => .array .int
  | 8 => .array .int
  | 9 => .array .boolean
  | 10 => .array .boolean
  | 11 => .int
  | 12 => .int
  | _ => .int
theorem nX2 : ∀ a, a < 14 → ∀ b, b < 14 → a ≠ b → (TX2 a).2.1 ≠ (TX2 b).2.1 := by decide +kernel
theorem tyX2_ok : ∀ k, k < 14 → parseFieldDescriptor (TX2 k).2.2.1 = some (tyX2 k) := by decide +kernel
theorem u_X2 : ∀ w ∈ u_ws RX2 TX2 14, w ∈ WA := by decide +kernel
def RL : String := "LinePairLaw"
abbrev vwCl : List vw_C := [(RX0, TX0, 3), (RX1, TX1, 19), (RX2, TX2, 14)]
abbrev cX0_init : ByteArray := prog_1_method_1_code
def yX0_init : MethodName := ⟨RX0, "<init>", "()V"⟩
def wsX0_init : List Cond := .code yX0_init cX0_init 1 none :: WA
theorem k_co_X0_init : Cond.code yX0_init cX0_init 1 none ∈ WA := wa_m (List.mem_of_getElem? (i := 13) rfl) rfl
abbrev cX1_init : ByteArray := prog_2_method_1_code
def yX1_init : MethodName := ⟨RX1, "<init>", "(I)V"⟩
def wsX1_init : List Cond := .code yX1_init cX1_init 2 none :: WA
theorem k_co_X1_init : Cond.code yX1_init cX1_init 2 none ∈ WA := wa_m (List.mem_of_getElem? (i := 21) rfl) rfl
abbrev cX0_take : ByteArray := prog_1_method_5_code
def yX0_take : MethodName := ⟨RX0, "take", "()I"⟩
def wsX0_take : List Cond := .code yX0_take cX0_take 2 (some .int) :: WA
theorem k_co_X0_take : Cond.code yX0_take cX0_take 2 (some .int) ∈ WA := wa_m (List.mem_of_getElem? (i := 110) rfl) rfl
abbrev cX1_takeDelivered : ByteArray := prog_2_method_7_code
def yX1_takeDelivered : MethodName := ⟨RX1, "takeDelivered", "()I"⟩
def wsX1_takeDelivered : List Cond := .code yX1_takeDelivered cX1_takeDelivered 2 (some .int) :: WA
theorem k_co_X1_takeDelivered : Cond.code yX1_takeDelivered cX1_takeDelivered 2 (some .int) ∈ WA := wa_m (List.mem_of_getElem? (i := 114) rfl) rfl
abbrev cX1_lineToDeliver : ByteArray := prog_2_method_4_code
def yX1_lineToDeliver : MethodName := ⟨RX1, "lineToDeliver", "()I"⟩
def wsX1_lineToDeliver : List Cond := .code yX1_lineToDeliver cX1_lineToDeliver 3 (some .int) :: WA
theorem k_co_X1_lineToDeliver : Cond.code yX1_lineToDeliver cX1_lineToDeliver 3 (some .int) ∈ WA := wa_m (List.mem_of_getElem? (i := 118) rfl) rfl
abbrev cX1_requested : ByteArray := prog_2_method_3_code
def yX1_requested : MethodName := ⟨RX1, "requested", "()I"⟩
def wsX1_requested : List Cond := .code yX1_requested cX1_requested 1 (some .int) :: WA
theorem k_co_X1_requested : Cond.code yX1_requested cX1_requested 1 (some .int) ∈ WA := wa_m (List.mem_of_getElem? (i := 122) rfl) rfl
abbrev cX1_highestOf : ByteArray := prog_2_method_17_code
def yX1_highestOf : MethodName := ⟨RX1, "highestOf", "(I)I"⟩
def wsX1_highestOf : List Cond := .code yX1_highestOf cX1_highestOf 4 (some .int) :: WA
theorem k_co_X1_highestOf : Cond.code yX1_highestOf cX1_highestOf 4 (some .int) ∈ WA := wa_m (List.mem_of_getElem? (i := 126) rfl) rfl
abbrev cX1_hasBit : ByteArray := prog_2_method_19_code
def yX1_hasBit : MethodName := ⟨RX1, "hasBit", "(II)Z"⟩
def wsX1_hasBit : List Cond := .code yX1_hasBit cX1_hasBit 2 (some .boolean) :: WA
theorem k_co_X1_hasBit : Cond.code yX1_hasBit cX1_hasBit 2 (some .boolean) ∈ WA := wa_m (List.mem_of_getElem? (i := 129) rfl) rfl
abbrev cX1_blockersOf : ByteArray := prog_2_method_5_code
def yX1_blockersOf : MethodName := ⟨RX1, "blockersOf", "(I)I"⟩
def wsX1_blockersOf : List Cond := .code yX1_blockersOf cX1_blockersOf 3 (some .int) :: WA
theorem k_co_X1_blockersOf : Cond.code yX1_blockersOf cX1_blockersOf 3 (some .int) ∈ WA := wa_m (List.mem_of_getElem? (i := 133) rfl) rfl
abbrev cX1_inServiceThatCounts : ByteArray := prog_2_method_6_code
def yX1_inServiceThatCounts : MethodName := ⟨RX1, "inServiceThatCounts", "()I"⟩
def wsX1_inServiceThatCounts : List Cond := .code yX1_inServiceThatCounts cX1_inServiceThatCounts 1 (some .int) :: WA
theorem k_co_X1_inServiceThatCounts : Cond.code yX1_inServiceThatCounts cX1_inServiceThatCounts 1 (some .int) ∈ WA := wa_m (List.mem_of_getElem? (i := 137) rfl) rfl
abbrev cX1_without : ByteArray := prog_2_method_20_code
def yX1_without : MethodName := ⟨RX1, "without", "(II)I"⟩
def wsX1_without : List Cond := .code yX1_without cX1_without 2 (some .int) :: WA
theorem k_co_X1_without : Cond.code yX1_without cX1_without 2 (some .int) ∈ WA := wa_m (List.mem_of_getElem? (i := 140) rfl) rfl
abbrev cX1_rankOf : ByteArray := prog_2_method_18_code
def yX1_rankOf : MethodName := ⟨RX1, "rankOf", "(I)I"⟩
def wsX1_rankOf : List Cond := .code yX1_rankOf cX1_rankOf 2 (some .int) :: WA
theorem k_co_X1_rankOf : Cond.code yX1_rankOf cX1_rankOf 2 (some .int) ∈ WA := wa_m (List.mem_of_getElem? (i := 144) rfl) rfl
abbrev cX0_takeFromHelper : ByteArray := prog_1_method_12_code
def yX0_takeFromHelper : MethodName := ⟨RX0, "takeFromHelper", "()I"⟩
def wsX0_takeFromHelper : List Cond := .code yX0_takeFromHelper cX0_takeFromHelper 2 (some .int) :: WA
theorem k_co_X0_takeFromHelper : Cond.code yX0_takeFromHelper cX0_takeFromHelper 2 (some .int) ∈ WA := wa_m (List.mem_of_getElem? (i := 148) rfl) rfl
abbrev cX1_moveLine : ByteArray := prog_2_method_2_code
def yX1_moveLine : MethodName := ⟨RX1, "moveLine", "(IZ)Z"⟩
def wsX1_moveLine : List Cond := .code yX1_moveLine cX1_moveLine 3 (some .boolean) :: WA
theorem k_co_X1_moveLine : Cond.code yX1_moveLine cX1_moveLine 3 (some .boolean) ∈ WA := wa_m (List.mem_of_getElem? (i := 152) rfl) rfl
abbrev cX0_followHelper : ByteArray := prog_1_method_13_code
def yX0_followHelper : MethodName := ⟨RX0, "followHelper", "()V"⟩
def wsX0_followHelper : List Cond := .code yX0_followHelper cX0_followHelper 1 none :: WA
theorem k_co_X0_followHelper : Cond.code yX0_followHelper cX0_followHelper 1 none ∈ WA := wa_m (List.mem_of_getElem? (i := 156) rfl) rfl
abbrev cX1_numberOf : ByteArray := prog_2_method_8_code
def yX1_numberOf : MethodName := ⟨RX1, "numberOf", "(I)I"⟩
def wsX1_numberOf : List Cond := .code yX1_numberOf cX1_numberOf 2 (some .int) :: WA
theorem k_co_X1_numberOf : Cond.code yX1_numberOf cX1_numberOf 2 (some .int) ∈ WA := wa_m (List.mem_of_getElem? (i := 161) rfl) rfl
abbrev cL_line : ByteArray := method_3_code
def yL_line : MethodName := ⟨RL, "line", "(LLinePair;IZ[J)I"⟩
def wsL_line : List Cond := .codeWith yL_line cL_line 5 (some .int) [(0, 17, 20, 13)] :: WA
theorem k_co_L_line : Cond.codeWith yL_line cL_line 5 (some .int) [(0, 17, 20, 13)] ∈ WA := wa_m (List.mem_of_getElem? (i := 164) rfl) rfl
abbrev cX0_line : ByteArray := prog_1_method_2_code
def yX0_line : MethodName := ⟨RX0, "line", "(IZ)Z"⟩
def wsX0_line : List Cond := .code yX0_line cX0_line 4 (some .boolean) :: WA
theorem k_co_X0_line : Cond.code yX0_line cX0_line 4 (some .boolean) ∈ WA := wa_m (List.mem_of_getElem? (i := 169) rfl) rfl
abbrev cL_write : ByteArray := method_4_code
def yL_write : MethodName := ⟨RL, "write", "(LLinePair;III[J)I"⟩
def wsL_write : List Cond := .codeWith yL_write cL_write 6 (some .int) [(0, 19, 22, 13), (0, 19, 26, 19)] :: WA
theorem k_co_L_write : Cond.codeWith yL_write cL_write 6 (some .int) [(0, 19, 22, 13), (0, 19, 26, 19)] ∈ WA := wa_m (List.mem_of_getElem? (i := 234) rfl) rfl
abbrev cX0_write : ByteArray := prog_1_method_3_code
def yX0_write : MethodName := ⟨RX0, "write", "(III)Z"⟩
def wsX0_write : List Cond := .code yX0_write cX0_write 5 (some .boolean) :: WA
theorem k_co_X0_write : Cond.code yX0_write cX0_write 5 (some .boolean) ∈ WA := wa_m (List.mem_of_getElem? (i := 239) rfl) rfl
abbrev cX0_controllerNumbered : ByteArray := prog_1_method_10_code
def yX0_controllerNumbered : MethodName := ⟨RX0, "controllerNumbered", "(I)LLinePair$Controller;"⟩
def wsX0_controllerNumbered : List Cond := .code yX0_controllerNumbered cX0_controllerNumbered 2 (some (.object "LinePair$Controller")) :: WA
theorem k_co_X0_controllerNumbered : Cond.code yX0_controllerNumbered cX0_controllerNumbered 2 (some (.object "LinePair$Controller")) ∈ WA := wa_m (List.mem_of_getElem? (i := 243) rfl) rfl
abbrev cX0_checkPort : ByteArray := prog_1_method_11_code
def yX0_checkPort : MethodName := ⟨RX0, "checkPort", "(I)V"⟩
def wsX0_checkPort : List Cond := .code yX0_checkPort cX0_checkPort 2 none :: WA
theorem k_co_X0_checkPort : Cond.code yX0_checkPort cX0_checkPort 2 none ∈ WA := wa_m (List.mem_of_getElem? (i := 247) rfl) rfl
abbrev cX1_acceptAtPort0 : ByteArray := prog_2_method_10_code
def yX1_acceptAtPort0 : MethodName := ⟨RX1, "acceptAtPort0", "(I)V"⟩
def wsX1_acceptAtPort0 : List Cond := .code yX1_acceptAtPort0 cX1_acceptAtPort0 2 none :: WA
theorem k_co_X1_acceptAtPort0 : Cond.code yX1_acceptAtPort0 cX1_acceptAtPort0 2 none ∈ WA := wa_m (List.mem_of_getElem? (i := 266) rfl) rfl
abbrev cX1_begin : ByteArray := prog_2_method_12_code
def yX1_begin : MethodName := ⟨RX1, "begin", "(I)V"⟩
def wsX1_begin : List Cond := .code yX1_begin cX1_begin 2 none :: WA
theorem k_co_X1_begin : Cond.code yX1_begin cX1_begin 2 none ∈ WA := wa_m (List.mem_of_getElem? (i := 270) rfl) rfl
abbrev cX1_choose : ByteArray := prog_2_method_13_code
def yX1_choose : MethodName := ⟨RX1, "choose", "(I)V"⟩
def wsX1_choose : List Cond := .code yX1_choose cX1_choose 2 none :: WA
theorem k_co_X1_choose : Cond.code yX1_choose cX1_choose 2 none ∈ WA := wa_m (List.mem_of_getElem? (i := 274) rfl) rfl
abbrev cX1_endOrTurn : ByteArray := prog_2_method_14_code
def yX1_endOrTurn : MethodName := ⟨RX1, "endOrTurn", "(II)V"⟩
def wsX1_endOrTurn : List Cond := .code yX1_endOrTurn cX1_endOrTurn 3 none :: WA
theorem k_co_X1_endOrTurn : Cond.code yX1_endOrTurn cX1_endOrTurn 3 none ∈ WA := wa_m (List.mem_of_getElem? (i := 278) rfl) rfl
abbrev cX1_end : ByteArray := prog_2_method_16_code
def yX1_end : MethodName := ⟨RX1, "end", "(I)V"⟩
def wsX1_end : List Cond := .code yX1_end cX1_end 2 none :: WA
theorem k_co_X1_end : Cond.code yX1_end cX1_end 2 none ∈ WA := wa_m (List.mem_of_getElem? (i := 282) rfl) rfl
abbrev cX1_endHighestAndTurn : ByteArray := prog_2_method_15_code
def yX1_endHighestAndTurn : MethodName := ⟨RX1, "endHighestAndTurn", "()V"⟩
def wsX1_endHighestAndTurn : List Cond := .code yX1_endHighestAndTurn cX1_endHighestAndTurn 2 none :: WA
theorem k_co_X1_endHighestAndTurn : Cond.code yX1_endHighestAndTurn cX1_endHighestAndTurn 2 none ∈ WA := wa_m (List.mem_of_getElem? (i := 286) rfl) rfl
abbrev cX1_acceptAtPort1 : ByteArray := prog_2_method_11_code
def yX1_acceptAtPort1 : MethodName := ⟨RX1, "acceptAtPort1", "(I)V"⟩
def wsX1_acceptAtPort1 : List Cond := .code yX1_acceptAtPort1 cX1_acceptAtPort1 2 none :: WA
theorem k_co_X1_acceptAtPort1 : Cond.code yX1_acceptAtPort1 cX1_acceptAtPort1 2 none ∈ WA := wa_m (List.mem_of_getElem? (i := 290) rfl) rfl
abbrev cL_read : ByteArray := method_5_code
def yL_read : MethodName := ⟨RL, "read", "(LLinePair;II[J)I"⟩
def wsL_read : List Cond := .codeWith yL_read cL_read 5 (some .int) [(0, 10, 13, 13)] :: WA
theorem k_co_L_read : Cond.codeWith yL_read cL_read 5 (some .int) [(0, 10, 13, 13)] ∈ WA := wa_m (List.mem_of_getElem? (i := 293) rfl) rfl
abbrev cX0_read : ByteArray := prog_1_method_4_code
def yX0_read : MethodName := ⟨RX0, "read", "(II)I"⟩
def wsX0_read : List Cond := .code yX0_read cX0_read 5 (some .int) :: WA
theorem k_co_X0_read : Cond.code yX0_read cX0_read 5 (some .int) ∈ WA := wa_m (List.mem_of_getElem? (i := 297) rfl) rfl
abbrev cX1_answerAtPort0 : ByteArray := prog_2_method_9_code
def yX1_answerAtPort0 : MethodName := ⟨RX1, "answerAtPort0", "()I"⟩
def wsX1_answerAtPort0 : List Cond := .code yX1_answerAtPort0 cX1_answerAtPort0 2 (some .int) :: WA
theorem k_co_X1_answerAtPort0 : Cond.code yX1_answerAtPort0 cX1_answerAtPort0 2 (some .int) ∈ WA := wa_m (List.mem_of_getElem? (i := 301) rfl) rfl
abbrev cL_delivers : ByteArray := method_6_code
def yL_delivers : MethodName := ⟨RL, "delivers", "(LLinePair;I[J)I"⟩
def wsL_delivers : List Cond := .codeWith yL_delivers cL_delivers 4 (some .int) [(0, 9, 12, 13)] :: WA
theorem k_co_L_delivers : Cond.codeWith yL_delivers cL_delivers 4 (some .int) [(0, 9, 12, 13)] ∈ WA := wa_m (List.mem_of_getElem? (i := 305) rfl) rfl
abbrev cX0_delivers : ByteArray := prog_1_method_6_code
def yX0_delivers : MethodName := ⟨RX0, "delivers", "(I)I"⟩
def wsX0_delivers : List Cond := .code yX0_delivers cX0_delivers 2 (some .int) :: WA
theorem k_co_X0_delivers : Cond.code yX0_delivers cX0_delivers 2 (some .int) ∈ WA := wa_m (List.mem_of_getElem? (i := 309) rfl) rfl
abbrev cL_about : ByteArray := method_7_code
def yL_about : MethodName := ⟨RL, "about", "(LLinePair;II[J)I"⟩
def wsL_about : List Cond := .codeWith yL_about cL_about 5 (some .int) [(0, 10, 13, 13), (0, 10, 17, 19)] :: WA
theorem k_co_L_about : Cond.codeWith yL_about cL_about 5 (some .int) [(0, 10, 13, 13), (0, 10, 17, 19)] ∈ WA := wa_m (List.mem_of_getElem? (i := 312) rfl) rfl
abbrev cX0_about : ByteArray := prog_1_method_7_code
def yX0_about : MethodName := ⟨RX0, "about", "(II)I"⟩
def wsX0_about : List Cond := .code yX0_about cX0_about 4 (some .int) :: WA
theorem k_co_X0_about : Cond.code yX0_about cX0_about 4 (some .int) ∈ WA := wa_m (List.mem_of_getElem? (i := 316) rfl) rfl
abbrev cL_mode : ByteArray := method_8_code
def yL_mode : MethodName := ⟨RL, "mode", "(LLinePair;II[J)I"⟩
def wsL_mode : List Cond := .codeWith yL_mode cL_mode 5 (some .int) [(0, 17, 20, 13), (0, 17, 24, 19)] :: WA
theorem k_co_L_mode : Cond.codeWith yL_mode cL_mode 5 (some .int) [(0, 17, 20, 13), (0, 17, 24, 19)] ∈ WA := wa_m (List.mem_of_getElem? (i := 320) rfl) rfl
abbrev cX0_mode : ByteArray := prog_1_method_8_code
def yX0_mode : MethodName := ⟨RX0, "mode", "(II)Z"⟩
def wsX0_mode : List Cond := .code yX0_mode cX0_mode 4 (some .boolean) :: WA
theorem k_co_X0_mode : Cond.code yX0_mode cX0_mode 4 (some .boolean) ∈ WA := wa_m (List.mem_of_getElem? (i := 324) rfl) rfl
abbrev cL_count : ByteArray := method_9_code
def yL_count : MethodName := ⟨RL, "count", "(LLinePair;I[J)I"⟩
def wsL_count : List Cond := .codeWith yL_count cL_count 4 (some .int) [(0, 9, 12, 19)] :: WA
theorem k_co_L_count : Cond.codeWith yL_count cL_count 4 (some .int) [(0, 9, 12, 19)] ∈ WA := wa_m (List.mem_of_getElem? (i := 327) rfl) rfl
abbrev cX0_count : ByteArray := prog_1_method_9_code
def yX0_count : MethodName := ⟨RX0, "count", "(I)I"⟩
def wsX0_count : List Cond := .code yX0_count cX0_count 2 (some .int) :: WA
theorem k_co_X0_count : Cond.code yX0_count cX0_count 2 (some .int) ∈ WA := wa_m (List.mem_of_getElem? (i := 331) rfl) rfl
abbrev cX2_init : ByteArray := prog_4_method_1_code
def yX2_init : MethodName := ⟨RX2, "<init>", "()V"⟩
def wsX2_init : List Cond := .code yX2_init cX2_init 1 none :: WA
theorem k_co_X2_init : Cond.code yX2_init cX2_init 1 none ∈ WA := wa_m (List.mem_of_getElem? (i := 336) rfl) rfl
abbrev cX2_thrown : ByteArray := prog_4_method_2_code
def yX2_thrown : MethodName := ⟨RX2, "thrown", "()I"⟩
def wsX2_thrown : List Cond := .code yX2_thrown cX2_thrown 1 (some .int) :: WA
theorem k_co_X2_thrown : Cond.code yX2_thrown cX2_thrown 1 (some .int) ∈ WA := wa_m (List.mem_of_getElem? (i := 386) rfl) rfl
abbrev cX2_line : ByteArray := prog_4_method_13_code
def yX2_line : MethodName := ⟨RX2, "line", "(IZ)Z"⟩
def wsX2_line : List Cond := .code yX2_line cX2_line 4 (some .boolean) :: WA
theorem k_co_X2_line : Cond.code yX2_line cX2_line 4 (some .boolean) ∈ WA := wa_m (List.mem_of_getElem? (i := 390) rfl) rfl
abbrev cX2_goes : ByteArray := prog_4_method_3_code
def yX2_goes : MethodName := ⟨RX2, "goes", "(ZZ)Z"⟩
def wsX2_goes : List Cond := .code yX2_goes cX2_goes 3 (some .boolean) :: WA
theorem k_co_X2_goes : Cond.code yX2_goes cX2_goes 3 (some .boolean) ∈ WA := wa_m (List.mem_of_getElem? (i := 394) rfl) rfl
abbrev cX2_raise : ByteArray := prog_4_method_10_code
def yX2_raise : MethodName := ⟨RX2, "raise", "(IZ)V"⟩
def wsX2_raise : List Cond := .code yX2_raise cX2_raise 3 none :: WA
theorem k_co_X2_raise : Cond.code yX2_raise cX2_raise 3 none ∈ WA := wa_m (List.mem_of_getElem? (i := 398) rfl) rfl
abbrev cX2_follow : ByteArray := prog_4_method_11_code
def yX2_follow : MethodName := ⟨RX2, "follow", "()V"⟩
def wsX2_follow : List Cond := .code yX2_follow cX2_follow 1 none :: WA
theorem k_co_X2_follow : Cond.code yX2_follow cX2_follow 1 none ∈ WA := wa_m (List.mem_of_getElem? (i := 402) rfl) rfl
abbrev cX2_delivered : ByteArray := prog_4_method_9_code
def yX2_delivered : MethodName := ⟨RX2, "delivered", "(I)I"⟩
def wsX2_delivered : List Cond := .code yX2_delivered cX2_delivered 6 (some .int) :: WA
theorem k_co_X2_delivered : Cond.code yX2_delivered cX2_delivered 6 (some .int) ∈ WA := wa_m (List.mem_of_getElem? (i := 406) rfl) rfl
abbrev cX2_is : ByteArray := prog_4_method_5_code
def yX2_is : MethodName := ⟨RX2, "is", "(II)Z"⟩
def wsX2_is : List Cond := .code yX2_is cX2_is 3 (some .boolean) :: WA
theorem k_co_X2_is : Cond.code yX2_is cX2_is 3 (some .boolean) ∈ WA := wa_m (List.mem_of_getElem? (i := 410) rfl) rfl
abbrev cX2_ranked : ByteArray := prog_4_method_7_code
def yX2_ranked : MethodName := ⟨RX2, "ranked", "(II)I"⟩
def wsX2_ranked : List Cond := .code yX2_ranked cX2_ranked 3 (some .int) :: WA
theorem k_co_X2_ranked : Cond.code yX2_ranked cX2_ranked 3 (some .int) ∈ WA := wa_m (List.mem_of_getElem? (i := 414) rfl) rfl
abbrev cX2_blocks : ByteArray := prog_4_method_8_code
def yX2_blocks : MethodName := ⟨RX2, "blocks", "(II)Z"⟩
def wsX2_blocks : List Cond := .code yX2_blocks cX2_blocks 3 (some .boolean) :: WA
theorem k_co_X2_blocks : Cond.code yX2_blocks cX2_blocks 3 (some .boolean) ∈ WA := wa_m (List.mem_of_getElem? (i := 418) rfl) rfl
abbrev cX2_requested : ByteArray := prog_4_method_6_code
def yX2_requested : MethodName := ⟨RX2, "requested", "(II)Z"⟩
def wsX2_requested : List Cond := .code yX2_requested cX2_requested 3 (some .boolean) :: WA
theorem k_co_X2_requested : Cond.code yX2_requested cX2_requested 3 (some .boolean) ∈ WA := wa_m (List.mem_of_getElem? (i := 422) rfl) rfl
abbrev cX2_write : ByteArray := prog_4_method_20_code
def yX2_write : MethodName := ⟨RX2, "write", "(III)Z"⟩
def wsX2_write : List Cond := .code yX2_write cX2_write 4 (some .boolean) :: WA
theorem k_co_X2_write : Cond.code yX2_write cX2_write 4 (some .boolean) ∈ WA := wa_m (List.mem_of_getElem? (i := 426) rfl) rfl
abbrev cX2_isController : ByteArray := prog_4_method_4_code
def yX2_isController : MethodName := ⟨RX2, "isController", "(I)Z"⟩
def wsX2_isController : List Cond := .code yX2_isController cX2_isController 1 (some .boolean) :: WA
theorem k_co_X2_isController : Cond.code yX2_isController cX2_isController 1 (some .boolean) ∈ WA := wa_m (List.mem_of_getElem? (i := 429) rfl) rfl
abbrev cX2_second : ByteArray := prog_4_method_15_code
def yX2_second : MethodName := ⟨RX2, "second", "(II)V"⟩
def wsX2_second : List Cond := .code yX2_second cX2_second 4 none :: WA
theorem k_co_X2_second : Cond.code yX2_second cX2_second 4 none ∈ WA := wa_m (List.mem_of_getElem? (i := 433) rfl) rfl
abbrev cX2_begin : ByteArray := prog_4_method_14_code
def yX2_begin : MethodName := ⟨RX2, "begin", "(II)V"⟩
def wsX2_begin : List Cond := .code yX2_begin cX2_begin 4 none :: WA
theorem k_co_X2_begin : Cond.code yX2_begin cX2_begin 4 none ∈ WA := wa_m (List.mem_of_getElem? (i := 437) rfl) rfl
abbrev cX2_order : ByteArray := prog_4_method_18_code
def yX2_order : MethodName := ⟨RX2, "order", "(II)V"⟩
def wsX2_order : List Cond := .code yX2_order cX2_order 4 none :: WA
theorem k_co_X2_order : Cond.code yX2_order cX2_order 4 none ∈ WA := wa_m (List.mem_of_getElem? (i := 441) rfl) rfl
abbrev cX2_end : ByteArray := prog_4_method_17_code
def yX2_end : MethodName := ⟨RX2, "end", "(III)V"⟩
def wsX2_end : List Cond := .code yX2_end cX2_end 5 none :: WA
theorem k_co_X2_end : Cond.code yX2_end cX2_end 5 none ∈ WA := wa_m (List.mem_of_getElem? (i := 445) rfl) rfl
abbrev cX2_highest : ByteArray := prog_4_method_16_code
def yX2_highest : MethodName := ⟨RX2, "highest", "(I)I"⟩
def wsX2_highest : List Cond := .code yX2_highest cX2_highest 3 (some .int) :: WA
theorem k_co_X2_highest : Cond.code yX2_highest cX2_highest 3 (some .int) ∈ WA := wa_m (List.mem_of_getElem? (i := 449) rfl) rfl
abbrev cX2_set : ByteArray := prog_4_method_19_code
def yX2_set : MethodName := ⟨RX2, "set", "(II)V"⟩
def wsX2_set : List Cond := .code yX2_set cX2_set 4 none :: WA
theorem k_co_X2_set : Cond.code yX2_set cX2_set 4 none ∈ WA := wa_m (List.mem_of_getElem? (i := 453) rfl) rfl
abbrev cX2_read : ByteArray := prog_4_method_22_code
def yX2_read : MethodName := ⟨RX2, "read", "(II)I"⟩
def wsX2_read : List Cond := .code yX2_read cX2_read 4 (some .int) :: WA
theorem k_co_X2_read : Cond.code yX2_read cX2_read 4 (some .int) ∈ WA := wa_m (List.mem_of_getElem? (i := 457) rfl) rfl
abbrev cX2_bits : ByteArray := prog_4_method_21_code
def yX2_bits : MethodName := ⟨RX2, "bits", "(II)I"⟩
def wsX2_bits : List Cond := .code yX2_bits cX2_bits 6 (some .int) :: WA
theorem k_co_X2_bits : Cond.code yX2_bits cX2_bits 6 (some .int) ∈ WA := wa_m (List.mem_of_getElem? (i := 461) rfl) rfl
abbrev cX2_taken : ByteArray := prog_4_method_12_code
def yX2_taken : MethodName := ⟨RX2, "taken", "(II)V"⟩
def wsX2_taken : List Cond := .code yX2_taken cX2_taken 3 none :: WA
theorem k_co_X2_taken : Cond.code yX2_taken cX2_taken 3 none ∈ WA := wa_m (List.mem_of_getElem? (i := 465) rfl) rfl
abbrev cX2_take : ByteArray := prog_4_method_23_code
def yX2_take : MethodName := ⟨RX2, "take", "()I"⟩
def wsX2_take : List Cond := .code yX2_take cX2_take 3 (some .int) :: WA
theorem k_co_X2_take : Cond.code yX2_take cX2_take 3 (some .int) ∈ WA := wa_m (List.mem_of_getElem? (i := 469) rfl) rfl
abbrev cX2_delivers : ByteArray := prog_4_method_24_code
def yX2_delivers : MethodName := ⟨RX2, "delivers", "(I)I"⟩
def wsX2_delivers : List Cond := .code yX2_delivers cX2_delivers 2 (some .int) :: WA
theorem k_co_X2_delivers : Cond.code yX2_delivers cX2_delivers 2 (some .int) ∈ WA := wa_m (List.mem_of_getElem? (i := 473) rfl) rfl
abbrev cX2_about : ByteArray := prog_4_method_25_code
def yX2_about : MethodName := ⟨RX2, "about", "(II)I"⟩
def wsX2_about : List Cond := .code yX2_about cX2_about 3 (some .int) :: WA
theorem k_co_X2_about : Cond.code yX2_about cX2_about 3 (some .int) ∈ WA := wa_m (List.mem_of_getElem? (i := 477) rfl) rfl
abbrev cX2_mode : ByteArray := prog_4_method_26_code
def yX2_mode : MethodName := ⟨RX2, "mode", "(II)Z"⟩
def wsX2_mode : List Cond := .code yX2_mode cX2_mode 3 (some .boolean) :: WA
theorem k_co_X2_mode : Cond.code yX2_mode cX2_mode 3 (some .boolean) ∈ WA := wa_m (List.mem_of_getElem? (i := 481) rfl) rfl
abbrev cX2_count : ByteArray := prog_4_method_27_code
def yX2_count : MethodName := ⟨RX2, "count", "(I)I"⟩
def wsX2_count : List Cond := .code yX2_count cX2_count 2 (some .int) :: WA
theorem k_co_X2_count : Cond.code yX2_count cX2_count 2 (some .int) ∈ WA := wa_m (List.mem_of_getElem? (i := 485) rfl) rfl
abbrev cL_law : ByteArray := code
def yL_law : MethodName := ⟨RL, "law", "([I)Z"⟩
theorem k_in_L : Cond.initialized RL ∈ WA := wa_m (List.mem_of_getElem? (i := 0) (by decide +kernel)) rfl
theorem k_in_X0 : Cond.initialized RX0 ∈ WA := wa_m (List.mem_of_getElem? (i := 1) (by decide +kernel)) rfl
theorem k_in_X1 : Cond.initialized RX1 ∈ WA := wa_m (List.mem_of_getElem? (i := 2) (by decide +kernel)) rfl
theorem k_in_X2 : Cond.initialized RX2 ∈ WA := wa_m (List.mem_of_getElem? (i := 3) (by decide +kernel)) rfl
theorem k_in_Throwable : Cond.initialized "java/lang/Throwable" ∈ WA := wa_m (List.mem_of_getElem? (i := 4) (by decide +kernel)) rfl
theorem k_in_Exception : Cond.initialized "java/lang/Exception" ∈ WA := wa_m (List.mem_of_getElem? (i := 5) (by decide +kernel)) rfl
theorem k_in_RuntimeException : Cond.initialized "java/lang/RuntimeException" ∈ WA := wa_m (List.mem_of_getElem? (i := 6) (by decide +kernel)) rfl
theorem k_in_NoSuchElementException : Cond.initialized "java/util/NoSuchElementException" ∈ WA := wa_m (List.mem_of_getElem? (i := 7) (by decide +kernel)) rfl
theorem k_in_IllegalArgumentException : Cond.initialized "java/lang/IllegalArgumentException" ∈ WA := wa_m (List.mem_of_getElem? (i := 8) (by decide +kernel)) rfl
theorem k_cl_L_8 : Cond.classLink RL 8 RX0 ∈ WA := wa_m (List.mem_of_getElem? (i := 9) (by decide +kernel)) rfl
theorem k_is_X0 : Cond.instantiable RX0 3 ∈ WA := wa_m (List.mem_of_getElem? (i := 10) (by decide +kernel)) rfl
theorem k_ml_L_39 : Cond.methodLink RL 39 yX0_init ∈ WA := wa_m (List.mem_of_getElem? (i := 11) (by decide +kernel)) rfl
theorem k_im_X0_init : Cond.instanceMethod yX0_init ∈ WA := wa_m (List.mem_of_getElem? (i := 12) (by decide +kernel)) rfl
theorem k_ml_X0_1 : Cond.methodLink RX0 1 objectInit ∈ WA := wa_m (List.mem_of_getElem? (i := 14) (by decide +kernel)) rfl
theorem k_im_objectInit : Cond.instanceMethod objectInit ∈ WA := wa_m (List.mem_of_getElem? (i := 15) (by decide +kernel)) rfl
theorem k_co_objectInit : Cond.code objectInit ⟨#[0xb1]⟩ 1 none ∈ WA := wa_m (List.mem_of_getElem? (i := 16) (by rfl)) rfl
theorem k_cl_X0_7 : Cond.classLink RX0 7 RX1 ∈ WA := wa_m (List.mem_of_getElem? (i := 17) (by decide +kernel)) rfl
theorem k_is_X1 : Cond.instantiable RX1 19 ∈ WA := wa_m (List.mem_of_getElem? (i := 18) (by decide +kernel)) rfl
theorem k_im_X1_init : Cond.instanceMethod yX1_init ∈ WA := wa_m (List.mem_of_getElem? (i := 20) (by decide +kernel)) rfl
theorem k_ml_X1_3 : Cond.methodLink RX1 3 objectInit ∈ WA := wa_m (List.mem_of_getElem? (i := 22) (by decide +kernel)) rfl
theorem k_fl_X1_9 : Cond.fieldLink RX1 9 "LinePair$Controller" "nestingLine" "I" ∈ WA := wa_m (List.mem_of_getElem? (i := 23) (by decide +kernel)) rfl
theorem k_fl_X1_18 : Cond.fieldLink RX1 18 "LinePair$Controller" "up" "I" ∈ WA := wa_m (List.mem_of_getElem? (i := 24) (by decide +kernel)) rfl
theorem k_fl_X1_25 : Cond.fieldLink RX1 25 "LinePair$Controller" "requestedByEdge" "I" ∈ WA := wa_m (List.mem_of_getElem? (i := 26) (by decide +kernel)) rfl
theorem k_fl_X1_65 : Cond.fieldLink RX1 65 "LinePair$Controller" "inService" "I" ∈ WA := wa_m (List.mem_of_getElem? (i := 27) (by decide +kernel)) rfl
theorem k_fl_X1_43 : Cond.fieldLink RX1 43 "LinePair$Controller" "masked" "I" ∈ WA := wa_m (List.mem_of_getElem? (i := 29) (by decide +kernel)) rfl
theorem k_fl_X1_15 : Cond.fieldLink RX1 15 "LinePair$Controller" "lowest" "I" ∈ WA := wa_m (List.mem_of_getElem? (i := 31) (by decide +kernel)) rfl
theorem k_fl_X1_80 : Cond.fieldLink RX1 80 "LinePair$Controller" "base" "I" ∈ WA := wa_m (List.mem_of_getElem? (i := 34) (by decide +kernel)) rfl
theorem k_fl_X1_103 : Cond.fieldLink RX1 103 "LinePair$Controller" "awaited" "I" ∈ WA := wa_m (List.mem_of_getElem? (i := 36) (by decide +kernel)) rfl
theorem k_fl_X1_89 : Cond.fieldLink RX1 89 "LinePair$Controller" "readChoice" "I" ∈ WA := wa_m (List.mem_of_getElem? (i := 38) (by decide +kernel)) rfl
theorem k_fl_X1_106 : Cond.fieldLink RX1 106 "LinePair$Controller" "fourthFollows" "Z" ∈ WA := wa_m (List.mem_of_getElem? (i := 39) (by decide +kernel)) rfl
theorem k_fl_X1_36 : Cond.fieldLink RX1 36 "LinePair$Controller" "ready" "Z" ∈ WA := wa_m (List.mem_of_getElem? (i := 40) (by decide +kernel)) rfl
theorem k_fl_X1_32 : Cond.fieldLink RX1 32 "LinePair$Controller" "byLevels" "Z" ∈ WA := wa_m (List.mem_of_getElem? (i := 42) (by decide +kernel)) rfl
theorem k_fl_X1_62 : Cond.fieldLink RX1 62 "LinePair$Controller" "specialMask" "Z" ∈ WA := wa_m (List.mem_of_getElem? (i := 44) (by decide +kernel)) rfl
theorem k_fl_X1_59 : Cond.fieldLink RX1 59 "LinePair$Controller" "specialNesting" "Z" ∈ WA := wa_m (List.mem_of_getElem? (i := 46) (by decide +kernel)) rfl
theorem k_fl_X1_71 : Cond.fieldLink RX1 71 "LinePair$Controller" "endsAtOnce" "Z" ∈ WA := wa_m (List.mem_of_getElem? (i := 48) (by decide +kernel)) rfl
theorem k_fl_X1_74 : Cond.fieldLink RX1 74 "LinePair$Controller" "turnsAtOnce" "Z" ∈ WA := wa_m (List.mem_of_getElem? (i := 50) (by decide +kernel)) rfl
theorem k_fl_X1_83 : Cond.fieldLink RX1 83 "LinePair$Controller" "pollWaits" "Z" ∈ WA := wa_m (List.mem_of_getElem? (i := 53) (by decide +kernel)) rfl
theorem k_fl_X1_77 : Cond.fieldLink RX1 77 "LinePair$Controller" "takenLines" "I" ∈ WA := wa_m (List.mem_of_getElem? (i := 54) (by decide +kernel)) rfl
theorem k_fl_X1_115 : Cond.fieldLink RX1 115 "LinePair$Controller" "endedLines" "I" ∈ WA := wa_m (List.mem_of_getElem? (i := 57) (by decide +kernel)) rfl
theorem k_fl_X0_14 : Cond.fieldLink RX0 14 "LinePair" "chief" "LLinePair$Controller;" ∈ WA := wa_m (List.mem_of_getElem? (i := 97) (by decide +kernel)) rfl
theorem k_fl_X0_18 : Cond.fieldLink RX0 18 "LinePair" "helper" "LLinePair$Controller;" ∈ WA := wa_m (List.mem_of_getElem? (i := 98) (by decide +kernel)) rfl
theorem k_fl_X0_21 : Cond.fieldLink RX0 21 "LinePair" "emptyAnswers" "I" ∈ WA := wa_m (List.mem_of_getElem? (i := 99) (by decide +kernel)) rfl
theorem k_ml_L_61 : Cond.methodLink RL 61 yX0_take ∈ WA := wa_m (List.mem_of_getElem? (i := 107) (by decide +kernel)) rfl
theorem k_im_X0_take : Cond.instanceMethod yX0_take ∈ WA := wa_m (List.mem_of_getElem? (i := 108) (by decide +kernel)) rfl
theorem k_se_X0_take : Cond.selects RX0 yX0_take yX0_take ∈ WA := wa_m (List.mem_of_getElem? (i := 109) (by decide +kernel)) rfl
theorem k_im_X1_takeDelivered : Cond.instanceMethod yX1_takeDelivered ∈ WA := wa_m (List.mem_of_getElem? (i := 113) (by decide +kernel)) rfl
theorem k_ml_X1_68 : Cond.methodLink RX1 68 yX1_lineToDeliver ∈ WA := wa_m (List.mem_of_getElem? (i := 115) (by decide +kernel)) rfl
theorem k_im_X1_lineToDeliver : Cond.instanceMethod yX1_lineToDeliver ∈ WA := wa_m (List.mem_of_getElem? (i := 117) (by decide +kernel)) rfl
theorem k_ml_X1_39 : Cond.methodLink RX1 39 yX1_requested ∈ WA := wa_m (List.mem_of_getElem? (i := 119) (by decide +kernel)) rfl
theorem k_im_X1_requested : Cond.instanceMethod yX1_requested ∈ WA := wa_m (List.mem_of_getElem? (i := 121) (by decide +kernel)) rfl
theorem k_ml_X1_46 : Cond.methodLink RX1 46 yX1_highestOf ∈ WA := wa_m (List.mem_of_getElem? (i := 123) (by decide +kernel)) rfl
theorem k_im_X1_highestOf : Cond.instanceMethod yX1_highestOf ∈ WA := wa_m (List.mem_of_getElem? (i := 125) (by decide +kernel)) rfl
theorem k_ml_X1_21 : Cond.methodLink RX1 21 yX1_hasBit ∈ WA := wa_m (List.mem_of_getElem? (i := 127) (by decide +kernel)) rfl
theorem k_st_X1_hasBit : Cond.static yX1_hasBit ∈ WA := wa_m (List.mem_of_getElem? (i := 128) (by decide +kernel)) rfl
theorem k_ml_X1_50 : Cond.methodLink RX1 50 yX1_blockersOf ∈ WA := wa_m (List.mem_of_getElem? (i := 130) (by decide +kernel)) rfl
theorem k_im_X1_blockersOf : Cond.instanceMethod yX1_blockersOf ∈ WA := wa_m (List.mem_of_getElem? (i := 132) (by decide +kernel)) rfl
theorem k_ml_X1_56 : Cond.methodLink RX1 56 yX1_inServiceThatCounts ∈ WA := wa_m (List.mem_of_getElem? (i := 134) (by decide +kernel)) rfl
theorem k_im_X1_inServiceThatCounts : Cond.instanceMethod yX1_inServiceThatCounts ∈ WA := wa_m (List.mem_of_getElem? (i := 136) (by decide +kernel)) rfl
theorem k_ml_X1_28 : Cond.methodLink RX1 28 yX1_without ∈ WA := wa_m (List.mem_of_getElem? (i := 138) (by decide +kernel)) rfl
theorem k_st_X1_without : Cond.static yX1_without ∈ WA := wa_m (List.mem_of_getElem? (i := 139) (by decide +kernel)) rfl
theorem k_ml_X1_53 : Cond.methodLink RX1 53 yX1_rankOf ∈ WA := wa_m (List.mem_of_getElem? (i := 141) (by decide +kernel)) rfl
theorem k_im_X1_rankOf : Cond.instanceMethod yX1_rankOf ∈ WA := wa_m (List.mem_of_getElem? (i := 143) (by decide +kernel)) rfl
theorem k_ml_X0_64 : Cond.methodLink RX0 64 yX0_takeFromHelper ∈ WA := wa_m (List.mem_of_getElem? (i := 145) (by decide +kernel)) rfl
theorem k_im_X0_takeFromHelper : Cond.instanceMethod yX0_takeFromHelper ∈ WA := wa_m (List.mem_of_getElem? (i := 147) (by decide +kernel)) rfl
theorem k_im_X1_moveLine : Cond.instanceMethod yX1_moveLine ∈ WA := wa_m (List.mem_of_getElem? (i := 151) (by decide +kernel)) rfl
theorem k_ml_X0_32 : Cond.methodLink RX0 32 yX0_followHelper ∈ WA := wa_m (List.mem_of_getElem? (i := 153) (by decide +kernel)) rfl
theorem k_im_X0_followHelper : Cond.instanceMethod yX0_followHelper ∈ WA := wa_m (List.mem_of_getElem? (i := 155) (by decide +kernel)) rfl
theorem k_im_X1_numberOf : Cond.instanceMethod yX1_numberOf ∈ WA := wa_m (List.mem_of_getElem? (i := 160) (by decide +kernel)) rfl
theorem k_ml_L_43 : Cond.methodLink RL 43 yL_line ∈ WA := wa_m (List.mem_of_getElem? (i := 162) (by decide +kernel)) rfl
theorem k_st_L_line : Cond.static yL_line ∈ WA := wa_m (List.mem_of_getElem? (i := 163) (by decide +kernel)) rfl
theorem k_cl_L_13 : Cond.classLink RL 13 "java/util/NoSuchElementException" ∈ WA := wa_m (List.mem_of_getElem? (i := 165) (by decide +kernel)) rfl
theorem k_ml_L_7 : Cond.methodLink RL 7 yX0_line ∈ WA := wa_m (List.mem_of_getElem? (i := 166) (by decide +kernel)) rfl
theorem k_im_X0_line : Cond.instanceMethod yX0_line ∈ WA := wa_m (List.mem_of_getElem? (i := 167) (by decide +kernel)) rfl
theorem k_se_X0_line : Cond.selects RX0 yX0_line yX0_line ∈ WA := wa_m (List.mem_of_getElem? (i := 168) (by decide +kernel)) rfl
theorem k_cl_X0_25 : Cond.classLink RX0 25 "java/util/NoSuchElementException" ∈ WA := wa_m (List.mem_of_getElem? (i := 170) (by decide +kernel)) rfl
theorem k_is_NoSuchElementException : Cond.instantiable "java/util/NoSuchElementException" 6 ∈ WA := wa_m (List.mem_of_getElem? (i := 171) (by decide +kernel)) rfl
theorem k_is_Throwable : Cond.instantiable "java/lang/Throwable" 6 ∈ WA := wa_m (List.mem_of_getElem? (i := 208) (by decide +kernel)) rfl
theorem k_ml_L_53 : Cond.methodLink RL 53 yL_write ∈ WA := wa_m (List.mem_of_getElem? (i := 232) (by decide +kernel)) rfl
theorem k_st_L_write : Cond.static yL_write ∈ WA := wa_m (List.mem_of_getElem? (i := 233) (by decide +kernel)) rfl
theorem k_cl_L_19 : Cond.classLink RL 19 "java/lang/IllegalArgumentException" ∈ WA := wa_m (List.mem_of_getElem? (i := 235) (by decide +kernel)) rfl
theorem k_ml_L_15 : Cond.methodLink RL 15 yX0_write ∈ WA := wa_m (List.mem_of_getElem? (i := 236) (by decide +kernel)) rfl
theorem k_im_X0_write : Cond.instanceMethod yX0_write ∈ WA := wa_m (List.mem_of_getElem? (i := 237) (by decide +kernel)) rfl
theorem k_se_X0_write : Cond.selects RX0 yX0_write yX0_write ∈ WA := wa_m (List.mem_of_getElem? (i := 238) (by decide +kernel)) rfl
theorem k_ml_X0_35 : Cond.methodLink RX0 35 yX0_controllerNumbered ∈ WA := wa_m (List.mem_of_getElem? (i := 240) (by decide +kernel)) rfl
theorem k_im_X0_controllerNumbered : Cond.instanceMethod yX0_controllerNumbered ∈ WA := wa_m (List.mem_of_getElem? (i := 242) (by decide +kernel)) rfl
theorem k_ml_X0_39 : Cond.methodLink RX0 39 yX0_checkPort ∈ WA := wa_m (List.mem_of_getElem? (i := 244) (by decide +kernel)) rfl
theorem k_im_X0_checkPort : Cond.instanceMethod yX0_checkPort ∈ WA := wa_m (List.mem_of_getElem? (i := 246) (by decide +kernel)) rfl
theorem k_cl_X0_42 : Cond.classLink RX0 42 "java/lang/IllegalArgumentException" ∈ WA := wa_m (List.mem_of_getElem? (i := 248) (by decide +kernel)) rfl
theorem k_is_IllegalArgumentException : Cond.instantiable "java/lang/IllegalArgumentException" 6 ∈ WA := wa_m (List.mem_of_getElem? (i := 249) (by decide +kernel)) rfl
theorem k_im_X1_acceptAtPort0 : Cond.instanceMethod yX1_acceptAtPort0 ∈ WA := wa_m (List.mem_of_getElem? (i := 265) (by decide +kernel)) rfl
theorem k_ml_X1_92 : Cond.methodLink RX1 92 yX1_begin ∈ WA := wa_m (List.mem_of_getElem? (i := 267) (by decide +kernel)) rfl
theorem k_im_X1_begin : Cond.instanceMethod yX1_begin ∈ WA := wa_m (List.mem_of_getElem? (i := 269) (by decide +kernel)) rfl
theorem k_ml_X1_96 : Cond.methodLink RX1 96 yX1_choose ∈ WA := wa_m (List.mem_of_getElem? (i := 271) (by decide +kernel)) rfl
theorem k_im_X1_choose : Cond.instanceMethod yX1_choose ∈ WA := wa_m (List.mem_of_getElem? (i := 273) (by decide +kernel)) rfl
theorem k_ml_X1_99 : Cond.methodLink RX1 99 yX1_endOrTurn ∈ WA := wa_m (List.mem_of_getElem? (i := 275) (by decide +kernel)) rfl
theorem k_im_X1_endOrTurn : Cond.instanceMethod yX1_endOrTurn ∈ WA := wa_m (List.mem_of_getElem? (i := 277) (by decide +kernel)) rfl
theorem k_ml_X1_109 : Cond.methodLink RX1 109 yX1_end ∈ WA := wa_m (List.mem_of_getElem? (i := 279) (by decide +kernel)) rfl
theorem k_im_X1_end : Cond.instanceMethod yX1_end ∈ WA := wa_m (List.mem_of_getElem? (i := 281) (by decide +kernel)) rfl
theorem k_ml_X1_112 : Cond.methodLink RX1 112 yX1_endHighestAndTurn ∈ WA := wa_m (List.mem_of_getElem? (i := 283) (by decide +kernel)) rfl
theorem k_im_X1_endHighestAndTurn : Cond.instanceMethod yX1_endHighestAndTurn ∈ WA := wa_m (List.mem_of_getElem? (i := 285) (by decide +kernel)) rfl
theorem k_im_X1_acceptAtPort1 : Cond.instanceMethod yX1_acceptAtPort1 ∈ WA := wa_m (List.mem_of_getElem? (i := 289) (by decide +kernel)) rfl
theorem k_ml_L_57 : Cond.methodLink RL 57 yL_read ∈ WA := wa_m (List.mem_of_getElem? (i := 291) (by decide +kernel)) rfl
theorem k_st_L_read : Cond.static yL_read ∈ WA := wa_m (List.mem_of_getElem? (i := 292) (by decide +kernel)) rfl
theorem k_ml_L_21 : Cond.methodLink RL 21 yX0_read ∈ WA := wa_m (List.mem_of_getElem? (i := 294) (by decide +kernel)) rfl
theorem k_im_X0_read : Cond.instanceMethod yX0_read ∈ WA := wa_m (List.mem_of_getElem? (i := 295) (by decide +kernel)) rfl
theorem k_se_X0_read : Cond.selects RX0 yX0_read yX0_read ∈ WA := wa_m (List.mem_of_getElem? (i := 296) (by decide +kernel)) rfl
theorem k_im_X1_answerAtPort0 : Cond.instanceMethod yX1_answerAtPort0 ∈ WA := wa_m (List.mem_of_getElem? (i := 300) (by decide +kernel)) rfl
theorem k_ml_X1_86 : Cond.methodLink RX1 86 yX1_takeDelivered ∈ WA := wa_m (List.mem_of_getElem? (i := 302) (by decide +kernel)) rfl
theorem k_ml_L_65 : Cond.methodLink RL 65 yL_delivers ∈ WA := wa_m (List.mem_of_getElem? (i := 303) (by decide +kernel)) rfl
theorem k_st_L_delivers : Cond.static yL_delivers ∈ WA := wa_m (List.mem_of_getElem? (i := 304) (by decide +kernel)) rfl
theorem k_ml_L_25 : Cond.methodLink RL 25 yX0_delivers ∈ WA := wa_m (List.mem_of_getElem? (i := 306) (by decide +kernel)) rfl
theorem k_im_X0_delivers : Cond.instanceMethod yX0_delivers ∈ WA := wa_m (List.mem_of_getElem? (i := 307) (by decide +kernel)) rfl
theorem k_se_X0_delivers : Cond.selects RX0 yX0_delivers yX0_delivers ∈ WA := wa_m (List.mem_of_getElem? (i := 308) (by decide +kernel)) rfl
theorem k_ml_L_69 : Cond.methodLink RL 69 yL_about ∈ WA := wa_m (List.mem_of_getElem? (i := 310) (by decide +kernel)) rfl
theorem k_st_L_about : Cond.static yL_about ∈ WA := wa_m (List.mem_of_getElem? (i := 311) (by decide +kernel)) rfl
theorem k_ml_L_29 : Cond.methodLink RL 29 yX0_about ∈ WA := wa_m (List.mem_of_getElem? (i := 313) (by decide +kernel)) rfl
theorem k_im_X0_about : Cond.instanceMethod yX0_about ∈ WA := wa_m (List.mem_of_getElem? (i := 314) (by decide +kernel)) rfl
theorem k_se_X0_about : Cond.selects RX0 yX0_about yX0_about ∈ WA := wa_m (List.mem_of_getElem? (i := 315) (by decide +kernel)) rfl
theorem k_ml_L_72 : Cond.methodLink RL 72 yL_mode ∈ WA := wa_m (List.mem_of_getElem? (i := 318) (by decide +kernel)) rfl
theorem k_st_L_mode : Cond.static yL_mode ∈ WA := wa_m (List.mem_of_getElem? (i := 319) (by decide +kernel)) rfl
theorem k_ml_L_32 : Cond.methodLink RL 32 yX0_mode ∈ WA := wa_m (List.mem_of_getElem? (i := 321) (by decide +kernel)) rfl
theorem k_im_X0_mode : Cond.instanceMethod yX0_mode ∈ WA := wa_m (List.mem_of_getElem? (i := 322) (by decide +kernel)) rfl
theorem k_se_X0_mode : Cond.selects RX0 yX0_mode yX0_mode ∈ WA := wa_m (List.mem_of_getElem? (i := 323) (by decide +kernel)) rfl
theorem k_ml_L_75 : Cond.methodLink RL 75 yL_count ∈ WA := wa_m (List.mem_of_getElem? (i := 325) (by decide +kernel)) rfl
theorem k_st_L_count : Cond.static yL_count ∈ WA := wa_m (List.mem_of_getElem? (i := 326) (by decide +kernel)) rfl
theorem k_ml_L_36 : Cond.methodLink RL 36 yX0_count ∈ WA := wa_m (List.mem_of_getElem? (i := 328) (by decide +kernel)) rfl
theorem k_im_X0_count : Cond.instanceMethod yX0_count ∈ WA := wa_m (List.mem_of_getElem? (i := 329) (by decide +kernel)) rfl
theorem k_se_X0_count : Cond.selects RX0 yX0_count yX0_count ∈ WA := wa_m (List.mem_of_getElem? (i := 330) (by decide +kernel)) rfl
theorem k_cl_L_40 : Cond.classLink RL 40 RX2 ∈ WA := wa_m (List.mem_of_getElem? (i := 332) (by decide +kernel)) rfl
theorem k_is_X2 : Cond.instantiable RX2 14 ∈ WA := wa_m (List.mem_of_getElem? (i := 333) (by decide +kernel)) rfl
theorem k_ml_L_42 : Cond.methodLink RL 42 yX2_init ∈ WA := wa_m (List.mem_of_getElem? (i := 334) (by decide +kernel)) rfl
theorem k_im_X2_init : Cond.instanceMethod yX2_init ∈ WA := wa_m (List.mem_of_getElem? (i := 335) (by decide +kernel)) rfl
theorem k_ml_X2_1 : Cond.methodLink RX2 1 objectInit ∈ WA := wa_m (List.mem_of_getElem? (i := 337) (by decide +kernel)) rfl
theorem k_fl_X2_41 : Cond.fieldLink RX2 41 "LinePairModel" "thrown" "I" ∈ WA := wa_m (List.mem_of_getElem? (i := 338) (by decide +kernel)) rfl
theorem k_fl_X2_7 : Cond.fieldLink RX2 7 "LinePairModel" "up" "[Z" ∈ WA := wa_m (List.mem_of_getElem? (i := 339) (by decide +kernel)) rfl
theorem k_fl_X2_13 : Cond.fieldLink RX2 13 "LinePairModel" "latched" "[Z" ∈ WA := wa_m (List.mem_of_getElem? (i := 340) (by decide +kernel)) rfl
theorem k_fl_X2_16 : Cond.fieldLink RX2 16 "LinePairModel" "served" "[Z" ∈ WA := wa_m (List.mem_of_getElem? (i := 341) (by decide +kernel)) rfl
theorem k_fl_X2_19 : Cond.fieldLink RX2 19 "LinePairModel" "masked" "[Z" ∈ WA := wa_m (List.mem_of_getElem? (i := 342) (by decide +kernel)) rfl
theorem k_fl_X2_22 : Cond.fieldLink RX2 22 "LinePairModel" "lowest" "[I" ∈ WA := wa_m (List.mem_of_getElem? (i := 343) (by decide +kernel)) rfl
theorem k_fl_X2_26 : Cond.fieldLink RX2 26 "LinePairModel" "bases" "[I" ∈ WA := wa_m (List.mem_of_getElem? (i := 344) (by decide +kernel)) rfl
theorem k_fl_X2_29 : Cond.fieldLink RX2 29 "LinePairModel" "awaited" "[I" ∈ WA := wa_m (List.mem_of_getElem? (i := 345) (by decide +kernel)) rfl
theorem k_fl_X2_32 : Cond.fieldLink RX2 32 "LinePairModel" "readers" "[I" ∈ WA := wa_m (List.mem_of_getElem? (i := 346) (by decide +kernel)) rfl
theorem k_fl_X2_35 : Cond.fieldLink RX2 35 "LinePairModel" "modes" "[Z" ∈ WA := wa_m (List.mem_of_getElem? (i := 347) (by decide +kernel)) rfl
theorem k_fl_X2_38 : Cond.fieldLink RX2 38 "LinePairModel" "fourth" "[Z" ∈ WA := wa_m (List.mem_of_getElem? (i := 348) (by decide +kernel)) rfl
theorem k_fl_X2_67 : Cond.fieldLink RX2 67 "LinePairModel" "takes" "I" ∈ WA := wa_m (List.mem_of_getElem? (i := 349) (by decide +kernel)) rfl
theorem k_fl_X2_110 : Cond.fieldLink RX2 110 "LinePairModel" "nothings" "I" ∈ WA := wa_m (List.mem_of_getElem? (i := 350) (by decide +kernel)) rfl
theorem k_fl_X2_80 : Cond.fieldLink RX2 80 "LinePairModel" "ends" "I" ∈ WA := wa_m (List.mem_of_getElem? (i := 351) (by decide +kernel)) rfl
theorem k_ac_boolean : Cond.arrayClass .boolean ∈ WA := wa_m (List.mem_of_getElem? (i := 381) (by decide +kernel)) rfl
theorem k_ac_int : Cond.arrayClass .int ∈ WA := wa_m (List.mem_of_getElem? (i := 382) (by decide +kernel)) rfl
theorem k_ml_L_49 : Cond.methodLink RL 49 yX2_thrown ∈ WA := wa_m (List.mem_of_getElem? (i := 383) (by decide +kernel)) rfl
theorem k_im_X2_thrown : Cond.instanceMethod yX2_thrown ∈ WA := wa_m (List.mem_of_getElem? (i := 384) (by decide +kernel)) rfl
theorem k_se_X2_thrown : Cond.selects RX2 yX2_thrown yX2_thrown ∈ WA := wa_m (List.mem_of_getElem? (i := 385) (by decide +kernel)) rfl
theorem k_ml_L_48 : Cond.methodLink RL 48 yX2_line ∈ WA := wa_m (List.mem_of_getElem? (i := 387) (by decide +kernel)) rfl
theorem k_im_X2_line : Cond.instanceMethod yX2_line ∈ WA := wa_m (List.mem_of_getElem? (i := 388) (by decide +kernel)) rfl
theorem k_se_X2_line : Cond.selects RX2 yX2_line yX2_line ∈ WA := wa_m (List.mem_of_getElem? (i := 389) (by decide +kernel)) rfl
theorem k_ml_X2_70 : Cond.methodLink RX2 70 yX2_goes ∈ WA := wa_m (List.mem_of_getElem? (i := 391) (by decide +kernel)) rfl
theorem k_im_X2_goes : Cond.instanceMethod yX2_goes ∈ WA := wa_m (List.mem_of_getElem? (i := 393) (by decide +kernel)) rfl
theorem k_ml_X2_63 : Cond.methodLink RX2 63 yX2_raise ∈ WA := wa_m (List.mem_of_getElem? (i := 395) (by decide +kernel)) rfl
theorem k_im_X2_raise : Cond.instanceMethod yX2_raise ∈ WA := wa_m (List.mem_of_getElem? (i := 397) (by decide +kernel)) rfl
theorem k_ml_X2_74 : Cond.methodLink RX2 74 yX2_follow ∈ WA := wa_m (List.mem_of_getElem? (i := 399) (by decide +kernel)) rfl
theorem k_im_X2_follow : Cond.instanceMethod yX2_follow ∈ WA := wa_m (List.mem_of_getElem? (i := 401) (by decide +kernel)) rfl
theorem k_ml_X2_59 : Cond.methodLink RX2 59 yX2_delivered ∈ WA := wa_m (List.mem_of_getElem? (i := 403) (by decide +kernel)) rfl
theorem k_im_X2_delivered : Cond.instanceMethod yX2_delivered ∈ WA := wa_m (List.mem_of_getElem? (i := 405) (by decide +kernel)) rfl
theorem k_ml_X2_45 : Cond.methodLink RX2 45 yX2_is ∈ WA := wa_m (List.mem_of_getElem? (i := 407) (by decide +kernel)) rfl
theorem k_im_X2_is : Cond.instanceMethod yX2_is ∈ WA := wa_m (List.mem_of_getElem? (i := 409) (by decide +kernel)) rfl
theorem k_ml_X2_49 : Cond.methodLink RX2 49 yX2_ranked ∈ WA := wa_m (List.mem_of_getElem? (i := 411) (by decide +kernel)) rfl
theorem k_im_X2_ranked : Cond.instanceMethod yX2_ranked ∈ WA := wa_m (List.mem_of_getElem? (i := 413) (by decide +kernel)) rfl
theorem k_ml_X2_53 : Cond.methodLink RX2 53 yX2_blocks ∈ WA := wa_m (List.mem_of_getElem? (i := 415) (by decide +kernel)) rfl
theorem k_im_X2_blocks : Cond.instanceMethod yX2_blocks ∈ WA := wa_m (List.mem_of_getElem? (i := 417) (by decide +kernel)) rfl
theorem k_ml_X2_56 : Cond.methodLink RX2 56 yX2_requested ∈ WA := wa_m (List.mem_of_getElem? (i := 419) (by decide +kernel)) rfl
theorem k_im_X2_requested : Cond.instanceMethod yX2_requested ∈ WA := wa_m (List.mem_of_getElem? (i := 421) (by decide +kernel)) rfl
theorem k_ml_L_56 : Cond.methodLink RL 56 yX2_write ∈ WA := wa_m (List.mem_of_getElem? (i := 423) (by decide +kernel)) rfl
theorem k_im_X2_write : Cond.instanceMethod yX2_write ∈ WA := wa_m (List.mem_of_getElem? (i := 424) (by decide +kernel)) rfl
theorem k_se_X2_write : Cond.selects RX2 yX2_write yX2_write ∈ WA := wa_m (List.mem_of_getElem? (i := 425) (by decide +kernel)) rfl
theorem k_ml_X2_87 : Cond.methodLink RX2 87 yX2_isController ∈ WA := wa_m (List.mem_of_getElem? (i := 427) (by decide +kernel)) rfl
theorem k_st_X2_isController : Cond.static yX2_isController ∈ WA := wa_m (List.mem_of_getElem? (i := 428) (by decide +kernel)) rfl
theorem k_ml_X2_91 : Cond.methodLink RX2 91 yX2_second ∈ WA := wa_m (List.mem_of_getElem? (i := 430) (by decide +kernel)) rfl
theorem k_im_X2_second : Cond.instanceMethod yX2_second ∈ WA := wa_m (List.mem_of_getElem? (i := 432) (by decide +kernel)) rfl
theorem k_ml_X2_95 : Cond.methodLink RX2 95 yX2_begin ∈ WA := wa_m (List.mem_of_getElem? (i := 434) (by decide +kernel)) rfl
theorem k_im_X2_begin : Cond.instanceMethod yX2_begin ∈ WA := wa_m (List.mem_of_getElem? (i := 436) (by decide +kernel)) rfl
theorem k_ml_X2_98 : Cond.methodLink RX2 98 yX2_order ∈ WA := wa_m (List.mem_of_getElem? (i := 438) (by decide +kernel)) rfl
theorem k_im_X2_order : Cond.instanceMethod yX2_order ∈ WA := wa_m (List.mem_of_getElem? (i := 440) (by decide +kernel)) rfl
theorem k_ml_X2_83 : Cond.methodLink RX2 83 yX2_end ∈ WA := wa_m (List.mem_of_getElem? (i := 442) (by decide +kernel)) rfl
theorem k_im_X2_end : Cond.instanceMethod yX2_end ∈ WA := wa_m (List.mem_of_getElem? (i := 444) (by decide +kernel)) rfl
theorem k_ml_X2_77 : Cond.methodLink RX2 77 yX2_highest ∈ WA := wa_m (List.mem_of_getElem? (i := 446) (by decide +kernel)) rfl
theorem k_im_X2_highest : Cond.instanceMethod yX2_highest ∈ WA := wa_m (List.mem_of_getElem? (i := 448) (by decide +kernel)) rfl
theorem k_ml_X2_101 : Cond.methodLink RX2 101 yX2_set ∈ WA := wa_m (List.mem_of_getElem? (i := 450) (by decide +kernel)) rfl
theorem k_im_X2_set : Cond.instanceMethod yX2_set ∈ WA := wa_m (List.mem_of_getElem? (i := 452) (by decide +kernel)) rfl
theorem k_ml_L_60 : Cond.methodLink RL 60 yX2_read ∈ WA := wa_m (List.mem_of_getElem? (i := 454) (by decide +kernel)) rfl
theorem k_im_X2_read : Cond.instanceMethod yX2_read ∈ WA := wa_m (List.mem_of_getElem? (i := 455) (by decide +kernel)) rfl
theorem k_se_X2_read : Cond.selects RX2 yX2_read yX2_read ∈ WA := wa_m (List.mem_of_getElem? (i := 456) (by decide +kernel)) rfl
theorem k_ml_X2_104 : Cond.methodLink RX2 104 yX2_bits ∈ WA := wa_m (List.mem_of_getElem? (i := 458) (by decide +kernel)) rfl
theorem k_im_X2_bits : Cond.instanceMethod yX2_bits ∈ WA := wa_m (List.mem_of_getElem? (i := 460) (by decide +kernel)) rfl
theorem k_ml_X2_107 : Cond.methodLink RX2 107 yX2_taken ∈ WA := wa_m (List.mem_of_getElem? (i := 462) (by decide +kernel)) rfl
theorem k_im_X2_taken : Cond.instanceMethod yX2_taken ∈ WA := wa_m (List.mem_of_getElem? (i := 464) (by decide +kernel)) rfl
theorem k_ml_L_64 : Cond.methodLink RL 64 yX2_take ∈ WA := wa_m (List.mem_of_getElem? (i := 466) (by decide +kernel)) rfl
theorem k_im_X2_take : Cond.instanceMethod yX2_take ∈ WA := wa_m (List.mem_of_getElem? (i := 467) (by decide +kernel)) rfl
theorem k_se_X2_take : Cond.selects RX2 yX2_take yX2_take ∈ WA := wa_m (List.mem_of_getElem? (i := 468) (by decide +kernel)) rfl
theorem k_ml_L_68 : Cond.methodLink RL 68 yX2_delivers ∈ WA := wa_m (List.mem_of_getElem? (i := 470) (by decide +kernel)) rfl
theorem k_im_X2_delivers : Cond.instanceMethod yX2_delivers ∈ WA := wa_m (List.mem_of_getElem? (i := 471) (by decide +kernel)) rfl
theorem k_se_X2_delivers : Cond.selects RX2 yX2_delivers yX2_delivers ∈ WA := wa_m (List.mem_of_getElem? (i := 472) (by decide +kernel)) rfl
theorem k_ml_L_71 : Cond.methodLink RL 71 yX2_about ∈ WA := wa_m (List.mem_of_getElem? (i := 474) (by decide +kernel)) rfl
theorem k_im_X2_about : Cond.instanceMethod yX2_about ∈ WA := wa_m (List.mem_of_getElem? (i := 475) (by decide +kernel)) rfl
theorem k_se_X2_about : Cond.selects RX2 yX2_about yX2_about ∈ WA := wa_m (List.mem_of_getElem? (i := 476) (by decide +kernel)) rfl
theorem k_ml_L_74 : Cond.methodLink RL 74 yX2_mode ∈ WA := wa_m (List.mem_of_getElem? (i := 478) (by decide +kernel)) rfl
theorem k_im_X2_mode : Cond.instanceMethod yX2_mode ∈ WA := wa_m (List.mem_of_getElem? (i := 479) (by decide +kernel)) rfl
theorem k_se_X2_mode : Cond.selects RX2 yX2_mode yX2_mode ∈ WA := wa_m (List.mem_of_getElem? (i := 480) (by decide +kernel)) rfl
theorem k_ml_L_77 : Cond.methodLink RL 77 yX2_count ∈ WA := wa_m (List.mem_of_getElem? (i := 482) (by decide +kernel)) rfl
theorem k_im_X2_count : Cond.instanceMethod yX2_count ∈ WA := wa_m (List.mem_of_getElem? (i := 483) (by decide +kernel)) rfl
theorem k_se_X2_count : Cond.selects RX2 yX2_count yX2_count ∈ WA := wa_m (List.mem_of_getElem? (i := 484) (by decide +kernel)) rfl
theorem k_ac_long : Cond.arrayClass .long ∈ WA := wa_m (List.mem_of_getElem? (i := 486) (by decide +kernel)) rfl
theorem k_se_X1_takeDelivered : Cond.selects RX1 yX1_takeDelivered yX1_takeDelivered ∈ WA := wa_p (List.mem_of_getElem? (i := 0) (by decide +kernel)) rfl
theorem k_se_X1_lineToDeliver : Cond.selects RX1 yX1_lineToDeliver yX1_lineToDeliver ∈ WA := wa_p (List.mem_of_getElem? (i := 1) (by decide +kernel)) rfl
theorem k_se_X1_requested : Cond.selects RX1 yX1_requested yX1_requested ∈ WA := wa_p (List.mem_of_getElem? (i := 2) (by decide +kernel)) rfl
theorem k_se_X1_highestOf : Cond.selects RX1 yX1_highestOf yX1_highestOf ∈ WA := wa_p (List.mem_of_getElem? (i := 3) (by decide +kernel)) rfl
theorem k_se_X1_blockersOf : Cond.selects RX1 yX1_blockersOf yX1_blockersOf ∈ WA := wa_p (List.mem_of_getElem? (i := 4) (by decide +kernel)) rfl
theorem k_se_X1_inServiceThatCounts : Cond.selects RX1 yX1_inServiceThatCounts yX1_inServiceThatCounts ∈ WA := wa_p (List.mem_of_getElem? (i := 5) (by decide +kernel)) rfl
theorem k_se_X1_rankOf : Cond.selects RX1 yX1_rankOf yX1_rankOf ∈ WA := wa_p (List.mem_of_getElem? (i := 6) (by decide +kernel)) rfl
theorem k_se_X0_takeFromHelper : Cond.selects RX0 yX0_takeFromHelper yX0_takeFromHelper ∈ WA := wa_p (List.mem_of_getElem? (i := 7) (by decide +kernel)) rfl
theorem k_se_X1_moveLine : Cond.selects RX1 yX1_moveLine yX1_moveLine ∈ WA := wa_p (List.mem_of_getElem? (i := 8) (by decide +kernel)) rfl
theorem k_se_X0_followHelper : Cond.selects RX0 yX0_followHelper yX0_followHelper ∈ WA := wa_p (List.mem_of_getElem? (i := 9) (by decide +kernel)) rfl
theorem k_se_X1_numberOf : Cond.selects RX1 yX1_numberOf yX1_numberOf ∈ WA := wa_p (List.mem_of_getElem? (i := 10) (by decide +kernel)) rfl
theorem k_se_X0_controllerNumbered : Cond.selects RX0 yX0_controllerNumbered yX0_controllerNumbered ∈ WA := wa_p (List.mem_of_getElem? (i := 12) (by decide +kernel)) rfl
theorem k_se_X0_checkPort : Cond.selects RX0 yX0_checkPort yX0_checkPort ∈ WA := wa_p (List.mem_of_getElem? (i := 13) (by decide +kernel)) rfl
theorem k_se_X1_acceptAtPort0 : Cond.selects RX1 yX1_acceptAtPort0 yX1_acceptAtPort0 ∈ WA := wa_p (List.mem_of_getElem? (i := 14) (by decide +kernel)) rfl
theorem k_se_X1_begin : Cond.selects RX1 yX1_begin yX1_begin ∈ WA := wa_p (List.mem_of_getElem? (i := 15) (by decide +kernel)) rfl
theorem k_se_X1_choose : Cond.selects RX1 yX1_choose yX1_choose ∈ WA := wa_p (List.mem_of_getElem? (i := 16) (by decide +kernel)) rfl
theorem k_se_X1_endOrTurn : Cond.selects RX1 yX1_endOrTurn yX1_endOrTurn ∈ WA := wa_p (List.mem_of_getElem? (i := 17) (by decide +kernel)) rfl
theorem k_se_X1_end : Cond.selects RX1 yX1_end yX1_end ∈ WA := wa_p (List.mem_of_getElem? (i := 18) (by decide +kernel)) rfl
theorem k_se_X1_endHighestAndTurn : Cond.selects RX1 yX1_endHighestAndTurn yX1_endHighestAndTurn ∈ WA := wa_p (List.mem_of_getElem? (i := 19) (by decide +kernel)) rfl
theorem k_se_X1_acceptAtPort1 : Cond.selects RX1 yX1_acceptAtPort1 yX1_acceptAtPort1 ∈ WA := wa_p (List.mem_of_getElem? (i := 20) (by decide +kernel)) rfl
theorem k_se_X1_answerAtPort0 : Cond.selects RX1 yX1_answerAtPort0 yX1_answerAtPort0 ∈ WA := wa_p (List.mem_of_getElem? (i := 21) (by decide +kernel)) rfl
theorem k_se_X2_goes : Cond.selects RX2 yX2_goes yX2_goes ∈ WA := wa_p (List.mem_of_getElem? (i := 22) (by decide +kernel)) rfl
theorem k_se_X2_raise : Cond.selects RX2 yX2_raise yX2_raise ∈ WA := wa_p (List.mem_of_getElem? (i := 23) (by decide +kernel)) rfl
theorem k_se_X2_follow : Cond.selects RX2 yX2_follow yX2_follow ∈ WA := wa_p (List.mem_of_getElem? (i := 24) (by decide +kernel)) rfl
theorem k_se_X2_delivered : Cond.selects RX2 yX2_delivered yX2_delivered ∈ WA := wa_p (List.mem_of_getElem? (i := 25) (by decide +kernel)) rfl
theorem k_se_X2_is : Cond.selects RX2 yX2_is yX2_is ∈ WA := wa_p (List.mem_of_getElem? (i := 26) (by decide +kernel)) rfl
theorem k_se_X2_ranked : Cond.selects RX2 yX2_ranked yX2_ranked ∈ WA := wa_p (List.mem_of_getElem? (i := 27) (by decide +kernel)) rfl
theorem k_se_X2_blocks : Cond.selects RX2 yX2_blocks yX2_blocks ∈ WA := wa_p (List.mem_of_getElem? (i := 28) (by decide +kernel)) rfl
theorem k_se_X2_requested : Cond.selects RX2 yX2_requested yX2_requested ∈ WA := wa_p (List.mem_of_getElem? (i := 29) (by decide +kernel)) rfl
theorem k_se_X2_second : Cond.selects RX2 yX2_second yX2_second ∈ WA := wa_p (List.mem_of_getElem? (i := 30) (by decide +kernel)) rfl
theorem k_se_X2_begin : Cond.selects RX2 yX2_begin yX2_begin ∈ WA := wa_p (List.mem_of_getElem? (i := 31) (by decide +kernel)) rfl
theorem k_se_X2_order : Cond.selects RX2 yX2_order yX2_order ∈ WA := wa_p (List.mem_of_getElem? (i := 32) (by decide +kernel)) rfl
theorem k_se_X2_end : Cond.selects RX2 yX2_end yX2_end ∈ WA := wa_p (List.mem_of_getElem? (i := 33) (by decide +kernel)) rfl
theorem k_se_X2_highest : Cond.selects RX2 yX2_highest yX2_highest ∈ WA := wa_p (List.mem_of_getElem? (i := 34) (by decide +kernel)) rfl
theorem k_se_X2_set : Cond.selects RX2 yX2_set yX2_set ∈ WA := wa_p (List.mem_of_getElem? (i := 35) (by decide +kernel)) rfl
theorem k_se_X2_bits : Cond.selects RX2 yX2_bits yX2_bits ∈ WA := wa_p (List.mem_of_getElem? (i := 36) (by decide +kernel)) rfl
theorem k_se_X2_taken : Cond.selects RX2 yX2_taken yX2_taken ∈ WA := wa_p (List.mem_of_getElem? (i := 37) (by decide +kernel)) rfl
