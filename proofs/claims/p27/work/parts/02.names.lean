theorem goodIn_r {big : List Cond} (ws : List Cond) (ps : List Nat) (hp : ws = ps.filterMap (fun i => big[i]?)) (h : ws.all goodWord = true) : GoodIn big ws := by
  intro w hw
  have h1 := List.all_eq_true.mp h w hw
  rw [hp] at hw
  obtain ⟨i, -, hi⟩ := List.mem_filterMap.mp hw
  have hm : w ∈ big := by first | exact List.mem_of_getElem? hi | exact List.getElem?_mem hi
  exact ⟨hm, good_of_word h1⟩
theorem goodIn_app {big a b : List Cond} (ha : GoodIn big a) (hb : GoodIn big b) : GoodIn big (a ++ b) := fun w h => (List.mem_append.mp h).elim (ha w) (hb w)
theorem goodIn_ca {big a b : List Cond} {c : Cond} (ha : GoodIn big (c :: a)) (hb : GoodIn big b) : GoodIn big (c :: (a ++ b)) := fun w h => (List.mem_cons.mp h).elim (fun e => ha w (List.mem_cons.mpr (Or.inl e))) (fun h => (List.mem_append.mp h).elim (fun h => ha w (List.mem_cons.mpr (Or.inr h))) (hb w))
theorem goodIn_sub {big ws : List Cond} (hm : ∀ w ∈ ws, w ∈ big) (h : ws.all goodWord = true) : GoodIn big ws := fun w hw => ⟨hm w hw, good_of_word (List.all_eq_true.mp h w hw)⟩
def RX0 : String := "DebtorViews$Books"
def TX0 : u_T := fun k => match k with
  | 0 => ("DebtorViews$Books", "log", "LDebtorViews$Log;", true)
  | 1 => ("DebtorViews$Books", "views", "[LDebtorViews$View;", true)
  | 2 => ("DebtorViews$Books", "settings", "[I", true)
  | 3 => ("DebtorViews$Books", "ranks", "[I", true)
  | 4 => ("DebtorViews$Books", "defined", "I", false)
  | 5 => ("DebtorViews$Books", "treasury", "I", false)
  | 6 => ("DebtorViews$Books", "received", "I", false)
  | 7 => ("DebtorViews$Books", "spentOnDebts", "I", false)
  | 8 => ("DebtorViews$Books", "spentOnArrears", "I", false)
  | 9 => ("DebtorViews$Books", "spentOnFounding", "I", false)
  | 10 => ("DebtorViews$Books", "writtenOff", "I", false)
  | _ => ("DebtorViews$Books", "ticks", "I", false)
def tyX0 : Nat → FieldType := fun k => match k with
  | 0 => .object "DebtorViews$Log"
  | 1 => .array (.object "DebtorViews$View")
  | 2 => .array .int
  | 3 => .array .int
  | 4 => .int
  | 5 => .int
  | 6 => .int
  | 7 => .int
  | 8 => .int
  | 9 => .int
  | 10 => .int
  | _ => .int
abbrev wsX00 : List Cond := u_ws RX0 TX0 12
theorem nmX0 : ∀ a, a < 12 → ∀ b, b < 12 → a ≠ b → (TX0 a).2.1 ≠ (TX0 b).2.1 := by decide +kernel
theorem tyX0_ok : ∀ k, k < 12 → parseFieldDescriptor (TX0 k).2.2.1 = some (tyX0 k) := by decide +kernel
abbrev cX0_init : ByteArray := prog_2_method_1_code
def yX0_init : MethodName := ⟨RX0, "<init>", "()V"⟩
abbrev cX0_setting : ByteArray := prog_2_method_2_code
def yX0_setting : MethodName := ⟨RX0, "setting", "(I)I"⟩
abbrev cX0_changeSetting : ByteArray := prog_2_method_3_code
def yX0_changeSetting : MethodName := ⟨RX0, "changeSetting", "(II)V"⟩
abbrev cX0_find : ByteArray := prog_2_method_4_code
def yX0_find : MethodName := ⟨RX0, "find", "(I)LDebtorViews$View;"⟩
abbrev cX0_allows : ByteArray := prog_2_method_5_code
def yX0_allows : MethodName := ⟨RX0, "allows", "(III)Z"⟩
abbrev cX0_addView : ByteArray := prog_2_method_6_code
def yX0_addView : MethodName := ⟨RX0, "addView", "(IIII)I"⟩
abbrev cX0_noteParts : ByteArray := prog_2_method_7_code
def yX0_noteParts : MethodName := ⟨RX0, "noteParts", "(LDebtorViews$View;LDebtorViews$View;LDebtorViews$View;)V"⟩
abbrev cX0_isPart : ByteArray := prog_2_method_8_code
def yX0_isPart : MethodName := ⟨RX0, "isPart", "(I)Z"⟩
abbrev cX0_setOf : ByteArray := prog_2_method_9_code
def yX0_setOf : MethodName := ⟨RX0, "setOf", "(I)I"⟩
abbrev cX0_belongs : ByteArray := prog_2_method_10_code
def yX0_belongs : MethodName := ⟨RX0, "belongs", "(LDebtorViews$View;I)Z"⟩
abbrev cX0_concernedBy : ByteArray := prog_2_method_11_code
def yX0_concernedBy : MethodName := ⟨RX0, "concernedBy", "(I)I"⟩
abbrev cX0_arrears : ByteArray := prog_2_method_12_code
def yX0_arrears : MethodName := ⟨RX0, "arrears", "(LDebtorViews$View;)I"⟩
abbrev cX0_priceOfArrear : ByteArray := prog_2_method_13_code
def yX0_priceOfArrear : MethodName := ⟨RX0, "priceOfArrear", "(LDebtorViews$View;)I"⟩
abbrev cX0_need : ByteArray := prog_2_method_14_code
def yX0_need : MethodName := ⟨RX0, "need", "(LDebtorViews$View;)I"⟩
abbrev cX0_interest : ByteArray := prog_2_method_15_code
def yX0_interest : MethodName := ⟨RX0, "interest", "(LDebtorViews$View;)I"⟩
abbrev cX0_foundingCost : ByteArray := prog_2_method_16_code
def yX0_foundingCost : MethodName := ⟨RX0, "foundingCost", "(LDebtorViews$View;)I"⟩
abbrev cX0_allDebts : ByteArray := prog_2_method_17_code
def yX0_allDebts : MethodName := ⟨RX0, "allDebts", "()I"⟩
abbrev cX0_allNeeds : ByteArray := prog_2_method_18_code
def yX0_allNeeds : MethodName := ⟨RX0, "allNeeds", "()I"⟩
abbrev cX0_receive : ByteArray := prog_2_method_19_code
def yX0_receive : MethodName := ⟨RX0, "receive", "(I)V"⟩
abbrev cX0_passTick : ByteArray := prog_2_method_20_code
def yX0_passTick : MethodName := ⟨RX0, "passTick", "()I"⟩
abbrev cX0_spend : ByteArray := prog_2_method_21_code
def yX0_spend : MethodName := ⟨RX0, "spend", "(LDebtorViews$View;I)V"⟩
abbrev cX0_payOne : ByteArray := prog_2_method_22_code
def yX0_payOne : MethodName := ⟨RX0, "payOne", "(LDebtorViews$View;I)I"⟩
abbrev cX0_payDebt : ByteArray := prog_2_method_23_code
def yX0_payDebt : MethodName := ⟨RX0, "payDebt", "(LDebtorViews$View;I)I"⟩
abbrev cX0_payArrears : ByteArray := prog_2_method_24_code
def yX0_payArrears : MethodName := ⟨RX0, "payArrears", "(LDebtorViews$View;I)I"⟩
abbrev cX0_foundAnew : ByteArray := prog_2_method_29_code
def yX0_foundAnew : MethodName := ⟨RX0, "foundAnew", "(LDebtorViews$View;I)V"⟩
abbrev cX0_copyFrom : ByteArray := prog_2_method_30_code
def yX0_copyFrom : MethodName := ⟨RX0, "copyFrom", "(LDebtorViews$Books;)V"⟩
def RX1 : String := "DebtorViews$History"
def TX1 : u_T := fun k => match k with
  | 0 => ("DebtorViews$History", "states", "[LDebtorViews$State;", true)
  | 1 => ("DebtorViews$History", "oldest", "I", false)
  | _ => ("DebtorViews$History", "size", "I", false)
def tyX1 : Nat → FieldType := fun k => match k with
  | 0 => .array (.object "DebtorViews$State")
  | 1 => .int
  | _ => .int
abbrev wsX10 : List Cond := u_ws RX1 TX1 3
theorem nmX1 : ∀ a, a < 3 → ∀ b, b < 3 → a ≠ b → (TX1 a).2.1 ≠ (TX1 b).2.1 := by decide +kernel
theorem tyX1_ok : ∀ k, k < 3 → parseFieldDescriptor (TX1 k).2.2.1 = some (tyX1 k) := by decide +kernel
abbrev cX1_init : ByteArray := prog_3_method_1_code
def yX1_init : MethodName := ⟨RX1, "<init>", "()V"⟩
abbrev cX1_record : ByteArray := prog_3_method_2_code
def yX1_record : MethodName := ⟨RX1, "record", "(LDebtorViews$State;)V"⟩
abbrev cX1_removeLatestInto : ByteArray := prog_3_method_3_code
def yX1_removeLatestInto : MethodName := ⟨RX1, "removeLatestInto", "(LDebtorViews$State;)V"⟩
abbrev cX1_row : ByteArray := prog_3_method_4_code
def yX1_row : MethodName := ⟨RX1, "row", "(I)LDebtorViews$State;"⟩
def RX2 : String := "DebtorViews$Log"
def TX2 : u_T := fun k => match k with
  | 0 => ("DebtorViews$Log", "cells", "[I", true)
  | 1 => ("DebtorViews$Log", "values", "[I", true)
  | _ => ("DebtorViews$Log", "end", "I", false)
def tyX2 : Nat → FieldType := fun k => match k with
  | 0 => .array .int
  | 1 => .array .int
  | _ => .int
abbrev wsX20 : List Cond := u_ws RX2 TX2 3
theorem nmX2 : ∀ a, a < 3 → ∀ b, b < 3 → a ≠ b → (TX2 a).2.1 ≠ (TX2 b).2.1 := by decide +kernel
theorem tyX2_ok : ∀ k, k < 3 → parseFieldDescriptor (TX2 k).2.2.1 = some (tyX2 k) := by decide +kernel
abbrev cX2_init : ByteArray := prog_4_method_1_code
def yX2_init : MethodName := ⟨RX2, "<init>", "()V"⟩
abbrev cX2_isFull : ByteArray := prog_4_method_2_code
def yX2_isFull : MethodName := ⟨RX2, "isFull", "()Z"⟩
abbrev cX2_add : ByteArray := prog_4_method_3_code
def yX2_add : MethodName := ⟨RX2, "add", "(II)I"⟩
abbrev cX2_cell : ByteArray := prog_4_method_4_code
def yX2_cell : MethodName := ⟨RX2, "cell", "(I)I"⟩
abbrev cX2_newValue : ByteArray := prog_4_method_5_code
def yX2_newValue : MethodName := ⟨RX2, "newValue", "(I)I"⟩
abbrev cX2_copyFrom : ByteArray := prog_4_method_7_code
def yX2_copyFrom : MethodName := ⟨RX2, "copyFrom", "(LDebtorViews$Log;)V"⟩
def RX3 : String := "DebtorViews$Reader"
def TX3 : u_T := fun k => match k with
  | 0 => ("DebtorViews$Reader", "text", "LDebtorViews$Text;", true)
  | 1 => ("DebtorViews$Reader", "start", "I", false)
  | 2 => ("DebtorViews$Reader", "next", "I", false)
  | 3 => ("DebtorViews$Reader", "fault", "I", false)
  | 4 => ("DebtorViews$Reader", "kind", "I", false)
  | 5 => ("DebtorViews$Reader", "table", "I", false)
  | 6 => ("DebtorViews$Reader", "first", "I", false)
  | _ => ("DebtorViews$Reader", "last", "I", false)
def tyX3 : Nat → FieldType := fun k => match k with
  | 0 => .object "DebtorViews$Text"
  | 1 => .int
  | 2 => .int
  | 3 => .int
  | 4 => .int
  | 5 => .int
  | 6 => .int
  | _ => .int
abbrev wsX30 : List Cond := u_ws RX3 TX3 8
theorem nmX3 : ∀ a, a < 8 → ∀ b, b < 8 → a ≠ b → (TX3 a).2.1 ≠ (TX3 b).2.1 := by decide +kernel
theorem tyX3_ok : ∀ k, k < 8 → parseFieldDescriptor (TX3 k).2.2.1 = some (tyX3 k) := by decide +kernel
abbrev cX3_init : ByteArray := prog_5_method_1_code
def yX3_init : MethodName := ⟨RX3, "<init>", "()V"⟩
abbrev cX3_read : ByteArray := prog_5_method_2_code
def yX3_read : MethodName := ⟨RX3, "read", "()V"⟩
abbrev cX3_hasFault : ByteArray := prog_5_method_3_code
def yX3_hasFault : MethodName := ⟨RX3, "hasFault", "()Z"⟩
abbrev cX3_readKind : ByteArray := prog_5_method_4_code
def yX3_readKind : MethodName := ⟨RX3, "readKind", "()I"⟩
abbrev cX3_readTable : ByteArray := prog_5_method_5_code
def yX3_readTable : MethodName := ⟨RX3, "readTable", "()I"⟩
abbrev cX3_readNumber : ByteArray := prog_5_method_6_code
def yX3_readNumber : MethodName := ⟨RX3, "readNumber", "()I"⟩
abbrev cX3_readDash : ByteArray := prog_5_method_7_code
def yX3_readDash : MethodName := ⟨RX3, "readDash", "()V"⟩
abbrev cX3_readEnd : ByteArray := prog_5_method_8_code
def yX3_readEnd : MethodName := ⟨RX3, "readEnd", "()V"⟩
abbrev cX3_advance : ByteArray := prog_5_method_9_code
def yX3_advance : MethodName := ⟨RX3, "advance", "()V"⟩
abbrev cX3_refuse : ByteArray := prog_5_method_10_code
def yX3_refuse : MethodName := ⟨RX3, "refuse", "()V"⟩
abbrev cX3_tokenIs : ByteArray := prog_5_method_11_code
def yX3_tokenIs : MethodName := ⟨RX3, "tokenIs", "(Ljava/lang/String;)Z"⟩
abbrev cX3_word : ByteArray := prog_5_method_12_code
def yX3_word : MethodName := ⟨RX3, "word", "(I)Ljava/lang/String;"⟩
abbrev cX3_isSameRun : ByteArray := prog_5_method_13_code
def yX3_isSameRun : MethodName := ⟨RX3, "isSameRun", "(II)Z"⟩
abbrev cX3_isLetter : ByteArray := prog_5_method_14_code
def yX3_isLetter : MethodName := ⟨RX3, "isLetter", "(I)Z"⟩
abbrev cX3_isDigit : ByteArray := prog_5_method_15_code
def yX3_isDigit : MethodName := ⟨RX3, "isDigit", "(I)Z"⟩
def RX4 : String := "DebtorViews$Replay"
def TX4 : u_T := fun k => match k with
  | 0 => ("DebtorViews$Replay", "tables", "LDebtorViews$Tables;", true)
  | _ => ("DebtorViews$Replay", "answers", "[I", true)
def tyX4 : Nat → FieldType := fun k => match k with
  | 0 => .object "DebtorViews$Tables"
  | _ => .array .int
abbrev wsX40 : List Cond := u_ws RX4 TX4 2
theorem nmX4 : ∀ a, a < 2 → ∀ b, b < 2 → a ≠ b → (TX4 a).2.1 ≠ (TX4 b).2.1 := by decide +kernel
theorem tyX4_ok : ∀ k, k < 2 → parseFieldDescriptor (TX4 k).2.2.1 = some (tyX4 k) := by decide +kernel
abbrev cX4_init : ByteArray := prog_6_method_1_code
def yX4_init : MethodName := ⟨RX4, "<init>", "()V"⟩
abbrev cX4_answerByTables : ByteArray := prog_6_method_2_code
def yX4_answerByTables : MethodName := ⟨RX4, "answerByTables", "(LDebtorViews$Books;II)I"⟩
abbrev cX4_answerByChanges : ByteArray := prog_6_method_3_code
def yX4_answerByChanges : MethodName := ⟨RX4, "answerByChanges", "(LDebtorViews$Books;II)I"⟩
abbrev cX4_lastTurn : ByteArray := prog_6_method_4_code
def yX4_lastTurn : MethodName := ⟨RX4, "lastTurn", "(LDebtorViews$Books;I)I"⟩
abbrev cX4_begin : ByteArray := prog_6_method_5_code
def yX4_begin : MethodName := ⟨RX4, "begin", "(LDebtorViews$Books;)V"⟩
abbrev cX4_askTables : ByteArray := prog_6_method_6_code
def yX4_askTables : MethodName := ⟨RX4, "askTables", "(LDebtorViews$Books;)V"⟩
abbrev cX4_step : ByteArray := prog_6_method_7_code
def yX4_step : MethodName := ⟨RX4, "step", "(LDebtorViews$Books;I)V"⟩
abbrev cX4_difference : ByteArray := prog_6_method_8_code
def yX4_difference : MethodName := ⟨RX4, "difference", "(LDebtorViews$View;)I"⟩
abbrev cX4_answer : ByteArray := prog_6_method_9_code
def yX4_answer : MethodName := ⟨RX4, "answer", "(I)I"⟩
def RX5 : String := "DebtorViews$State"
def TX5 : u_T := fun k => match k with
  | 0 => ("DebtorViews$State", "books", "LDebtorViews$Books;", true)
  | 1 => ("DebtorViews$State", "slots", "[LDebtorViews$Books;", true)
  | _ => ("DebtorViews$State", "taken", "[Z", true)
def tyX5 : Nat → FieldType := fun k => match k with
  | 0 => .object "DebtorViews$Books"
  | 1 => .array (.object "DebtorViews$Books")
  | _ => .array .boolean
abbrev wsX50 : List Cond := u_ws RX5 TX5 3
theorem nmX5 : ∀ a, a < 3 → ∀ b, b < 3 → a ≠ b → (TX5 a).2.1 ≠ (TX5 b).2.1 := by decide +kernel
theorem tyX5_ok : ∀ k, k < 3 → parseFieldDescriptor (TX5 k).2.2.1 = some (tyX5 k) := by decide +kernel
abbrev cX5_init : ByteArray := prog_7_method_1_code
def yX5_init : MethodName := ⟨RX5, "<init>", "()V"⟩
abbrev cX5_isTaken : ByteArray := prog_7_method_2_code
def yX5_isTaken : MethodName := ⟨RX5, "isTaken", "(I)Z"⟩
abbrev cX5_snapshots : ByteArray := prog_7_method_3_code
def yX5_snapshots : MethodName := ⟨RX5, "snapshots", "()I"⟩
abbrev cX5_keepIn : ByteArray := prog_7_method_4_code
def yX5_keepIn : MethodName := ⟨RX5, "keepIn", "(ILDebtorViews$Books;)V"⟩
abbrev cX5_snapshot : ByteArray := prog_7_method_6_code
def yX5_snapshot : MethodName := ⟨RX5, "snapshot", "(I)LDebtorViews$Books;"⟩
abbrev cX5_copyFrom : ByteArray := prog_7_method_7_code
def yX5_copyFrom : MethodName := ⟨RX5, "copyFrom", "(LDebtorViews$State;)V"⟩
def RX6 : String := "DebtorViews$Tables"
def TX6 : u_T := fun k => match k with
  | _ => ("DebtorViews$Tables", "values", "[I", true)
def tyX6 : Nat → FieldType := fun k => match k with
  | _ => .array .int
abbrev wsX60 : List Cond := u_ws RX6 TX6 1
theorem nmX6 : ∀ a, a < 1 → ∀ b, b < 1 → a ≠ b → (TX6 a).2.1 ≠ (TX6 b).2.1 := by decide +kernel
theorem tyX6_ok : ∀ k, k < 1 → parseFieldDescriptor (TX6 k).2.2.1 = some (tyX6 k) := by decide +kernel
abbrev cX6_init : ByteArray := prog_8_method_1_code
def yX6_init : MethodName := ⟨RX6, "<init>", "()V"⟩
abbrev cX6_empty : ByteArray := prog_8_method_2_code
def yX6_empty : MethodName := ⟨RX6, "empty", "()V"⟩
abbrev cX6_assign : ByteArray := prog_8_method_3_code
def yX6_assign : MethodName := ⟨RX6, "assign", "(II)V"⟩
abbrev cX6_at : ByteArray := prog_8_method_4_code
def yX6_at : MethodName := ⟨RX6, "at", "(I)I"⟩
def RX7 : String := "DebtorViews$Text"
def TX7 : u_T := fun k => match k with
  | 0 => ("DebtorViews$Text", "characters", "[I", true)
  | _ => ("DebtorViews$Text", "length", "I", false)
def tyX7 : Nat → FieldType := fun k => match k with
  | 0 => .array .int
  | _ => .int
abbrev wsX70 : List Cond := u_ws RX7 TX7 2
theorem nmX7 : ∀ a, a < 2 → ∀ b, b < 2 → a ≠ b → (TX7 a).2.1 ≠ (TX7 b).2.1 := by decide +kernel
theorem tyX7_ok : ∀ k, k < 2 → parseFieldDescriptor (TX7 k).2.2.1 = some (tyX7 k) := by decide +kernel
abbrev cX7_init : ByteArray := prog_9_method_1_code
def yX7_init : MethodName := ⟨RX7, "<init>", "()V"⟩
abbrev cX7_isFull : ByteArray := prog_9_method_2_code
def yX7_isFull : MethodName := ⟨RX7, "isFull", "()Z"⟩
abbrev cX7_add : ByteArray := prog_9_method_3_code
def yX7_add : MethodName := ⟨RX7, "add", "(I)V"⟩
abbrev cX7_empty : ByteArray := prog_9_method_4_code
def yX7_empty : MethodName := ⟨RX7, "empty", "()V"⟩
abbrev cX7_at : ByteArray := prog_9_method_5_code
def yX7_at : MethodName := ⟨RX7, "at", "(I)I"⟩
def RX8 : String := "DebtorViews$View"
def TX8 : u_T := fun k => match k with
  | 0 => ("DebtorViews$View", "exists", "Z", false)
  | 1 => ("DebtorViews$View", "kind", "I", false)
  | 2 => ("DebtorViews$View", "table", "I", false)
  | 3 => ("DebtorViews$View", "first", "I", false)
  | 4 => ("DebtorViews$View", "last", "I", false)
  | 5 => ("DebtorViews$View", "cells", "I", false)
  | 6 => ("DebtorViews$View", "keys", "I", false)
  | 7 => ("DebtorViews$View", "bankrupt", "Z", false)
  | 8 => ("DebtorViews$View", "place", "I", false)
  | 9 => ("DebtorViews$View", "debt", "I", false)
  | _ => ("DebtorViews$View", "spent", "I", false)
def tyX8 : Nat → FieldType := fun k => match k with
  | 0 => .boolean
  | 1 => .int
  | 2 => .int
  | 3 => .int
  | 4 => .int
  | 5 => .int
  | 6 => .int
  | 7 => .boolean
  | 8 => .int
  | 9 => .int
  | _ => .int
abbrev wsX80 : List Cond := u_ws RX8 TX8 11
theorem nmX8 : ∀ a, a < 11 → ∀ b, b < 11 → a ≠ b → (TX8 a).2.1 ≠ (TX8 b).2.1 := by decide +kernel
theorem tyX8_ok : ∀ k, k < 11 → parseFieldDescriptor (TX8 k).2.2.1 = some (tyX8 k) := by decide +kernel
abbrev cX8_init : ByteArray := prog_10_method_1_code
def yX8_init : MethodName := ⟨RX8, "<init>", "()V"⟩
abbrev cX8_pose : ByteArray := prog_10_method_2_code
def yX8_pose : MethodName := ⟨RX8, "pose", "(IIII)V"⟩
abbrev cX8_concern : ByteArray := prog_10_method_3_code
def yX8_concern : MethodName := ⟨RX8, "concern", "(II)V"⟩
abbrev cX8_begin : ByteArray := prog_10_method_4_code
def yX8_begin : MethodName := ⟨RX8, "begin", "(I)V"⟩
abbrev cX8_standAnew : ByteArray := prog_10_method_5_code
def yX8_standAnew : MethodName := ⟨RX8, "standAnew", "(I)V"⟩
abbrev cX8_fail : ByteArray := prog_10_method_6_code
def yX8_fail : MethodName := ⟨RX8, "fail", "()V"⟩
abbrev cX8_hasTable : ByteArray := prog_10_method_7_code
def yX8_hasTable : MethodName := ⟨RX8, "hasTable", "()Z"⟩
abbrev cX8_isMadeOf : ByteArray := prog_10_method_8_code
def yX8_isMadeOf : MethodName := ⟨RX8, "isMadeOf", "(I)Z"⟩
abbrev cX8_isConcernedBy : ByteArray := prog_10_method_9_code
def yX8_isConcernedBy : MethodName := ⟨RX8, "isConcernedBy", "(I)Z"⟩
abbrev cX8_rangeCells : ByteArray := prog_10_method_10_code
def yX8_rangeCells : MethodName := ⟨RX8, "rangeCells", "()I"⟩
abbrev cX8_rangeKeys : ByteArray := prog_10_method_11_code
def yX8_rangeKeys : MethodName := ⟨RX8, "rangeKeys", "()I"⟩
abbrev cX8_rangeAnswer : ByteArray := prog_10_method_12_code
def yX8_rangeAnswer : MethodName := ⟨RX8, "rangeAnswer", "(LDebtorViews$Tables;)I"⟩
abbrev cX8_revisedAnswer : ByteArray := prog_10_method_13_code
def yX8_revisedAnswer : MethodName := ⟨RX8, "revisedAnswer", "(IIILDebtorViews$Tables;)I"⟩
abbrev cX8_copyFrom : ByteArray := prog_10_method_14_code
def yX8_copyFrom : MethodName := ⟨RX8, "copyFrom", "(LDebtorViews$View;)V"⟩
def RX9 : String := "DebtorViews"
def TX9 : u_T := fun k => match k with
  | 0 => ("DebtorViews", "reader", "LDebtorViews$Reader;", true)
  | 1 => ("DebtorViews", "state", "LDebtorViews$State;", true)
  | 2 => ("DebtorViews", "history", "LDebtorViews$History;", true)
  | 3 => ("DebtorViews", "replay", "LDebtorViews$Replay;", true)
  | _ => ("DebtorViews", "forecast", "LDebtorViews$Books;", true)
def tyX9 : Nat → FieldType := fun k => match k with
  | 0 => .object "DebtorViews$Reader"
  | 1 => .object "DebtorViews$State"
  | 2 => .object "DebtorViews$History"
  | 3 => .object "DebtorViews$Replay"
  | _ => .object "DebtorViews$Books"
abbrev wsX90 : List Cond := u_ws RX9 TX9 5
theorem nmX9 : ∀ a, a < 5 → ∀ b, b < 5 → a ≠ b → (TX9 a).2.1 ≠ (TX9 b).2.1 := by decide +kernel
theorem tyX9_ok : ∀ k, k < 5 → parseFieldDescriptor (TX9 k).2.2.1 = some (tyX9 k) := by decide +kernel
abbrev cX9_init : ByteArray := prog_1_method_1_code
def yX9_init : MethodName := ⟨RX9, "<init>", "()V"⟩
abbrev cX9_put : ByteArray := prog_1_method_2_code
def yX9_put : MethodName := ⟨RX9, "put", "(III)I"⟩
abbrev cX9_define : ByteArray := prog_1_method_3_code
def yX9_define : MethodName := ⟨RX9, "define", "()I"⟩
abbrev cX9_drop : ByteArray := prog_1_method_4_code
def yX9_drop : MethodName := ⟨RX9, "drop", "(I)I"⟩
abbrev cX9_set : ByteArray := prog_1_method_5_code
def yX9_set : MethodName := ⟨RX9, "set", "(II)I"⟩
abbrev cX9_grant : ByteArray := prog_1_method_6_code
def yX9_grant : MethodName := ⟨RX9, "grant", "(I)I"⟩
abbrev cX9_tick : ByteArray := prog_1_method_7_code
def yX9_tick : MethodName := ⟨RX9, "tick", "()I"⟩
abbrev cX9_pay : ByteArray := prog_1_method_8_code
def yX9_pay : MethodName := ⟨RX9, "pay", "(II)I"⟩
abbrev cX9_found : ByteArray := prog_1_method_10_code
def yX9_found : MethodName := ⟨RX9, "found", "(I)I"⟩
abbrev cX9_undo : ByteArray := prog_1_method_13_code
def yX9_undo : MethodName := ⟨RX9, "undo", "()I"⟩
abbrev cX9_append : ByteArray := prog_1_method_14_code
def yX9_append : MethodName := ⟨RX9, "append", "(I)I"⟩
abbrev cX9_clearText : ByteArray := prog_1_method_15_code
def yX9_clearText : MethodName := ⟨RX9, "clearText", "()I"⟩
abbrev cX9_count : ByteArray := prog_1_method_16_code
def yX9_count : MethodName := ⟨RX9, "count", "(I)I"⟩
abbrev cX9_change : ByteArray := prog_1_method_18_code
def yX9_change : MethodName := ⟨RX9, "change", "(II)I"⟩
abbrev cX9_view : ByteArray := prog_1_method_19_code
def yX9_view : MethodName := ⟨RX9, "view", "(II)I"⟩
abbrev cX9_kept : ByteArray := prog_1_method_20_code
def yX9_kept : MethodName := ⟨RX9, "kept", "(I)I"⟩
abbrev cX9_ask : ByteArray := prog_1_method_21_code
def yX9_ask : MethodName := ⟨RX9, "ask", "(III)I"⟩
abbrev cX9_ruin : ByteArray := prog_1_method_22_code
def yX9_ruin : MethodName := ⟨RX9, "ruin", "(I)I"⟩
abbrev cX9_needed : ByteArray := prog_1_method_24_code
def yX9_needed : MethodName := ⟨RX9, "needed", "()I"⟩
abbrev cX9_since : ByteArray := prog_1_method_25_code
def yX9_since : MethodName := ⟨RX9, "since", "(I)I"⟩
abbrev cX9_isCell : ByteArray := prog_1_method_26_code
def yX9_isCell : MethodName := ⟨RX9, "isCell", "(II)Z"⟩
abbrev cX9_cellOf : ByteArray := prog_1_method_27_code
def yX9_cellOf : MethodName := ⟨RX9, "cellOf", "(II)I"⟩
abbrev cX9_isSetting : ByteArray := prog_1_method_28_code
def yX9_isSetting : MethodName := ⟨RX9, "isSetting", "(II)Z"⟩
abbrev cX9_amount : ByteArray := prog_1_method_29_code
def yX9_amount : MethodName := ⟨RX9, "amount", "(I)I"⟩
abbrev cX9_presence : ByteArray := prog_1_method_30_code
def yX9_presence : MethodName := ⟨RX9, "presence", "(I)I"⟩
def RX10 : String := "DebtorViewsModel"
def TX10 : u_T := fun k => match k with
  | _ => ("", "", "", false)
def tyX10 : Nat → FieldType := fun k => match k with
  | _ => .int
abbrev wsX100 : List Cond := u_ws RX10 TX10 0
theorem nmX10 : ∀ a, a < 0 → ∀ b, b < 0 → a ≠ b → (TX10 a).2.1 ≠ (TX10 b).2.1 := by decide +kernel
theorem tyX10_ok : ∀ k, k < 0 → parseFieldDescriptor (TX10 k).2.2.1 = some (tyX10 k) := by decide +kernel
def RJ6 : String := "java/lang/Integer"
def TJ6 : u_T := fun k => match k with
  | _ => ("", "", "", false)
def tyJ6 : Nat → FieldType := fun k => match k with
  | _ => .int
abbrev wsJ60 : List Cond := u_ws RJ6 TJ6 0
theorem nmJ6 : ∀ a, a < 0 → ∀ b, b < 0 → a ≠ b → (TJ6 a).2.1 ≠ (TJ6 b).2.1 := by decide +kernel
theorem tyJ6_ok : ∀ k, k < 0 → parseFieldDescriptor (TJ6 k).2.2.1 = some (tyJ6 k) := by decide +kernel
abbrev cJ6_bitCount_0f7a4 : ByteArray := prog_13_method_49_code
def yJ6_bitCount_0f7a4 : MethodName := ⟨RJ6, "bitCount", "(I)I"⟩
def RJ9 : String := "java/lang/Math"
def TJ9 : u_T := fun k => match k with
  | _ => ("", "", "", false)
def tyJ9 : Nat → FieldType := fun k => match k with
  | _ => .int
abbrev wsJ90 : List Cond := u_ws RJ9 TJ9 0
theorem nmJ9 : ∀ a, a < 0 → ∀ b, b < 0 → a ≠ b → (TJ9 a).2.1 ≠ (TJ9 b).2.1 := by decide +kernel
theorem tyJ9_ok : ∀ k, k < 0 → parseFieldDescriptor (TJ9 k).2.2.1 = some (tyJ9 k) := by decide +kernel
abbrev cJ9_max_7cf53 : ByteArray := prog_14_method_65_code
def yJ9_max_7cf53 : MethodName := ⟨RJ9, "max", "(II)I"⟩
abbrev cJ9_min_7cf53 : ByteArray := prog_14_method_69_code
def yJ9_min_7cf53 : MethodName := ⟨RJ9, "min", "(II)I"⟩
def RJ0 : String := "java/lang/String"
def TJ0 : u_T := fun k => match k with
  | _ => ("", "", "", false)
def tyJ0 : Nat → FieldType := fun k => match k with
  | _ => .int
abbrev wsJ00 : List Cond := u_ws RJ0 TJ0 0
theorem nmJ0 : ∀ a, a < 0 → ∀ b, b < 0 → a ≠ b → (TJ0 a).2.1 ≠ (TJ0 b).2.1 := by decide +kernel
theorem tyJ0_ok : ∀ k, k < 0 → parseFieldDescriptor (TJ0 k).2.2.1 = some (tyJ0 k) := by decide +kernel
abbrev cJ0_length_8abf5 : ByteArray := prog_15_method_54_code
def yJ0_length_8abf5 : MethodName := ⟨RJ0, "length", "()I"⟩
abbrev cJ0_charAt_5068e : ByteArray := prog_15_method_56_code
def yJ0_charAt_5068e : MethodName := ⟨RJ0, "charAt", "(I)C"⟩
abbrev cJ0_coder_7d493 : ByteArray := prog_15_method_152_code
def yJ0_coder_7d493 : MethodName := ⟨RJ0, "coder", "()B"⟩
abbrev cJ0_isLatin1_aae02 : ByteArray := prog_15_method_154_code
def yJ0_isLatin1_aae02 : MethodName := ⟨RJ0, "isLatin1", "()Z"⟩
abbrev cJ0_checkIndex_df160 : ByteArray := prog_15_method_155_code
def yJ0_checkIndex_df160 : MethodName := ⟨RJ0, "checkIndex", "(II)V"⟩
def RJ1 : String := "java/lang/StringLatin1"
def TJ1 : u_T := fun k => match k with
  | _ => ("", "", "", false)
def tyJ1 : Nat → FieldType := fun k => match k with
  | _ => .int
abbrev wsJ10 : List Cond := u_ws RJ1 TJ1 0
theorem nmJ1 : ∀ a, a < 0 → ∀ b, b < 0 → a ≠ b → (TJ1 a).2.1 ≠ (TJ1 b).2.1 := by decide +kernel
theorem tyJ1_ok : ∀ k, k < 0 → parseFieldDescriptor (TJ1 k).2.2.1 = some (tyJ1 k) := by decide +kernel
abbrev cJ1_charAt_3b067 : ByteArray := prog_16_method_2_code
def yJ1_charAt_3b067 : MethodName := ⟨RJ1, "charAt", "([BI)C"⟩
def RJ2 : String := "java/lang/StringUTF16"
def TJ2 : u_T := fun k => match k with
  | _ => ("", "", "", false)
def tyJ2 : Nat → FieldType := fun k => match k with
  | _ => .int
abbrev wsJ20 : List Cond := u_ws RJ2 TJ2 0
theorem nmJ2 : ∀ a, a < 0 → ∀ b, b < 0 → a ≠ b → (TJ2 a).2.1 ≠ (TJ2 b).2.1 := by decide +kernel
theorem tyJ2_ok : ∀ k, k < 0 → parseFieldDescriptor (TJ2 k).2.2.1 = some (tyJ2 k) := by decide +kernel
abbrev cJ2_getChar_3b067 : ByteArray := prog_17_method_5_code
def yJ2_getChar_3b067 : MethodName := ⟨RJ2, "getChar", "([BI)C"⟩
abbrev cJ2_length_9d52b : ByteArray := prog_17_method_6_code
def yJ2_length_9d52b : MethodName := ⟨RJ2, "length", "([B)I"⟩
abbrev cJ2_charAt_3b067 : ByteArray := prog_17_method_83_code
def yJ2_charAt_3b067 : MethodName := ⟨RJ2, "charAt", "([BI)C"⟩
abbrev cJ2_checkIndex_2214a : ByteArray := prog_17_method_91_code
def yJ2_checkIndex_2214a : MethodName := ⟨RJ2, "checkIndex", "(I[B)V"⟩
def RJ10 : String := "java/lang/System"
def TJ10 : u_T := fun k => match k with
  | _ => ("", "", "", false)
def tyJ10 : Nat → FieldType := fun k => match k with
  | _ => .int
abbrev wsJ100 : List Cond := u_ws RJ10 TJ10 0
theorem nmJ10 : ∀ a, a < 0 → ∀ b, b < 0 → a ≠ b → (TJ10 a).2.1 ≠ (TJ10 b).2.1 := by decide +kernel
theorem tyJ10_ok : ∀ k, k < 0 → parseFieldDescriptor (TJ10 k).2.2.1 = some (tyJ10 k) := by decide +kernel
def RJ3 : String := "jdk/internal/util/Preconditions"
def TJ3 : u_T := fun k => match k with
  | _ => ("", "", "", false)
def tyJ3 : Nat → FieldType := fun k => match k with
  | _ => .int
abbrev wsJ30 : List Cond := u_ws RJ3 TJ3 0
theorem nmJ3 : ∀ a, a < 0 → ∀ b, b < 0 → a ≠ b → (TJ3 a).2.1 ≠ (TJ3 b).2.1 := by decide +kernel
theorem tyJ3_ok : ∀ k, k < 0 → parseFieldDescriptor (TJ3 k).2.2.1 = some (tyJ3 k) := by decide +kernel
abbrev cJ3_checkIndex_8e157 : ByteArray := prog_19_method_11_code
def yJ3_checkIndex_8e157 : MethodName := ⟨RJ3, "checkIndex", "(IILjava/util/function/BiFunction;)I"⟩
def RL : String := "DebtorViewsLaw"
abbrev cL_cell : ByteArray := method_2_code
def yL_cell : MethodName := ⟨RL, "cell", "([II)I"⟩
abbrev cL_has : ByteArray := method_3_code
def yL_has : MethodName := ⟨RL, "has", "(II)Z"⟩
abbrev cL_bits : ByteArray := method_4_code
def yL_bits : MethodName := ⟨RL, "bits", "(I)I"⟩
abbrev cL_word : ByteArray := method_5_code
def yL_word : MethodName := ⟨RL, "word", "(LDebtorViews;I)V"⟩
abbrev cL_number : ByteArray := method_6_code
def yL_number : MethodName := ⟨RL, "number", "(LDebtorViews;I)V"⟩
abbrev cL_tells : ByteArray := method_7_code
def yL_tells : MethodName := ⟨RL, "tells", "(LDebtorViews;IIII)V"⟩
abbrev cL_viewHolds : ByteArray := method_8_code
def yL_viewHolds : MethodName := ⟨RL, "viewHolds", "(LDebtorViews;I)Z"⟩
abbrev cL_holds : ByteArray := method_9_code
def yL_holds : MethodName := ⟨RL, "holds", "(LDebtorViews;)Z"⟩
abbrev cL_asks : ByteArray := method_10_code
def yL_asks : MethodName := ⟨RL, "asks", "(LDebtorViews;II)Z"⟩
abbrev cL_ticks : ByteArray := method_11_code
def yL_ticks : MethodName := ⟨RL, "ticks", "(LDebtorViews;)Z"⟩
abbrev cL_pays : ByteArray := method_12_code
def yL_pays : MethodName := ⟨RL, "pays", "(LDebtorViews;II)Z"⟩
abbrev cL_founds : ByteArray := method_13_code
def yL_founds : MethodName := ⟨RL, "founds", "(LDebtorViews;I)Z"⟩
abbrev cL_law : ByteArray := code
def yL_law : MethodName := ⟨RL, "law", "([I)Z"⟩
abbrev vwCl : List vw_C := [(RX0, TX0, 12), (RX1, TX1, 3), (RX2, TX2, 3), (RX3, TX3, 8), (RX4, TX4, 2), (RX5, TX5, 3), (RX6, TX6, 1), (RX7, TX7, 2), (RX8, TX8, 11), (RX9, TX9, 5)]
