/-! names, fields, the words of the tables, by my program out of the claim's listing -/
def RX0 : String := "CongruenceLedger$LevelStack"
def TX0 : u_T := fun k => match k with
  | 0 => ("CongruenceLedger$LevelStack", "termCounts", "[I", true)
  | 1 => ("CongruenceLedger$LevelStack", "equationCounts", "[I", true)
  | 2 => ("CongruenceLedger$LevelStack", "disequationCounts", "[I", true)
  | _ => ("CongruenceLedger$LevelStack", "depth", "I", false)
def tyX0 : Nat → FieldType := fun k => match k with
  | 0 => .array .int
  | 1 => .array .int
  | 2 => .array .int
  | _ => .int
theorem nmX0 : ∀ a, a < 4 → ∀ b, b < 4 → a ≠ b → (TX0 a).2.1 ≠ (TX0 b).2.1 := by decide +kernel
theorem tyX0_ok : ∀ k, k < 4 → parseFieldDescriptor (TX0 k).2.2.1 = some (tyX0 k) := by decide +kernel
def RX1 : String := "CongruenceLedger$PairList"
def TX1 : u_T := fun k => match k with
  | 0 => ("CongruenceLedger$PairList", "lefts", "[I", true)
  | 1 => ("CongruenceLedger$PairList", "rights", "[I", true)
  | _ => ("CongruenceLedger$PairList", "count", "I", false)
def tyX1 : Nat → FieldType := fun k => match k with
  | 0 => .array .int
  | 1 => .array .int
  | _ => .int
theorem nmX1 : ∀ a, a < 3 → ∀ b, b < 3 → a ≠ b → (TX1 a).2.1 ≠ (TX1 b).2.1 := by decide +kernel
theorem tyX1_ok : ∀ k, k < 3 → parseFieldDescriptor (TX1 k).2.2.1 = some (tyX1 k) := by decide +kernel
def RX2 : String := "CongruenceLedger$Partition"
def TX2 : u_T := fun k => match k with
  | _ => ("CongruenceLedger$Partition", "lowest", "[I", true)
def tyX2 : Nat → FieldType := fun k => match k with
  | _ => .array .int
theorem nmX2 : ∀ a, a < 1 → ∀ b, b < 1 → a ≠ b → (TX2 a).2.1 ≠ (TX2 b).2.1 := by decide +kernel
theorem tyX2_ok : ∀ k, k < 1 → parseFieldDescriptor (TX2 k).2.2.1 = some (tyX2 k) := by decide +kernel
def RX3 : String := "CongruenceLedger$TermTable"
def TX3 : u_T := fun k => match k with
  | 0 => ("CongruenceLedger$TermTable", "symbols", "[I", true)
  | 1 => ("CongruenceLedger$TermTable", "firsts", "[I", true)
  | 2 => ("CongruenceLedger$TermTable", "seconds", "[I", true)
  | _ => ("CongruenceLedger$TermTable", "count", "I", false)
def tyX3 : Nat → FieldType := fun k => match k with
  | 0 => .array .int
  | 1 => .array .int
  | 2 => .array .int
  | _ => .int
theorem nmX3 : ∀ a, a < 4 → ∀ b, b < 4 → a ≠ b → (TX3 a).2.1 ≠ (TX3 b).2.1 := by decide +kernel
theorem tyX3_ok : ∀ k, k < 4 → parseFieldDescriptor (TX3 k).2.2.1 = some (tyX3 k) := by decide +kernel
def RX4 : String := "CongruenceLedger$WeightTable"
def TX4 : u_T := fun k => match k with
  | _ => ("CongruenceLedger$WeightTable", "ofClass", "[J", true)
def tyX4 : Nat → FieldType := fun k => match k with
  | _ => .array .long
theorem nmX4 : ∀ a, a < 1 → ∀ b, b < 1 → a ≠ b → (TX4 a).2.1 ≠ (TX4 b).2.1 := by decide +kernel
theorem tyX4_ok : ∀ k, k < 1 → parseFieldDescriptor (TX4 k).2.2.1 = some (tyX4 k) := by decide +kernel
def RX5 : String := "CongruenceLedger"
def TX5 : u_T := fun k => match k with
  | 0 => ("CongruenceLedger", "termTable", "LCongruenceLedger$TermTable;", true)
  | 1 => ("CongruenceLedger", "equationList", "LCongruenceLedger$PairList;", true)
  | 2 => ("CongruenceLedger", "disequationList", "LCongruenceLedger$PairList;", true)
  | 3 => ("CongruenceLedger", "levels", "LCongruenceLedger$LevelStack;", true)
  | 4 => ("CongruenceLedger", "current", "LCongruenceLedger$Partition;", true)
  | 5 => ("CongruenceLedger", "trial", "LCongruenceLedger$Partition;", true)
  | _ => ("CongruenceLedger", "weights", "LCongruenceLedger$WeightTable;", true)
def tyX5 : Nat → FieldType := fun k => match k with
  | 0 => .object "CongruenceLedger$TermTable"
  | 1 => .object "CongruenceLedger$PairList"
  | 2 => .object "CongruenceLedger$PairList"
  | 3 => .object "CongruenceLedger$LevelStack"
  | 4 => .object "CongruenceLedger$Partition"
  | 5 => .object "CongruenceLedger$Partition"
  | _ => .object "CongruenceLedger$WeightTable"
theorem nmX5 : ∀ a, a < 7 → ∀ b, b < 7 → a ≠ b → (TX5 a).2.1 ≠ (TX5 b).2.1 := by decide +kernel
theorem tyX5_ok : ∀ k, k < 7 → parseFieldDescriptor (TX5 k).2.2.1 = some (tyX5 k) := by decide +kernel
def RX6 : String := "CongruenceLedgerModel"
def TX6 : u_T := fun k => match k with
  | 0 => ("CongruenceLedgerModel", "count", "I", false)
  | 1 => ("CongruenceLedgerModel", "symbols", "[I", true)
  | 2 => ("CongruenceLedgerModel", "firsts", "[I", true)
  | 3 => ("CongruenceLedgerModel", "seconds", "[I", true)
  | 4 => ("CongruenceLedgerModel", "stated", "I", false)
  | 5 => ("CongruenceLedgerModel", "lefts", "[I", true)
  | 6 => ("CongruenceLedgerModel", "rights", "[I", true)
  | 7 => ("CongruenceLedgerModel", "denied", "I", false)
  | 8 => ("CongruenceLedgerModel", "ones", "[I", true)
  | 9 => ("CongruenceLedgerModel", "others", "[I", true)
  | 10 => ("CongruenceLedgerModel", "deep", "I", false)
  | 11 => ("CongruenceLedgerModel", "countThen", "[I", true)
  | 12 => ("CongruenceLedgerModel", "statedThen", "[I", true)
  | 13 => ("CongruenceLedgerModel", "deniedThen", "[I", true)
  | 14 => ("CongruenceLedgerModel", "label", "[I", true)
  | _ => ("CongruenceLedgerModel", "least", "[J", true)
def tyX6 : Nat → FieldType := fun k => match k with
  | 0 => .int
  | 1 => .array .int
  | 2 => .array .int
  | 3 => .array .int
  | 4 => .int
  | 5 => .array .int
  | 6 => .array .int
  | 7 => .int
  | 8 => .array .int
  | 9 => .array .int
  | 10 => .int
  | 11 => .array .int
  | 12 => .array .int
  | 13 => .array .int
  | 14 => .array .int
  | _ => .array .long
theorem nmX6 : ∀ a, a < 16 → ∀ b, b < 16 → a ≠ b → (TX6 a).2.1 ≠ (TX6 b).2.1 := by decide +kernel
theorem tyX6_ok : ∀ k, k < 16 → parseFieldDescriptor (TX6 k).2.2.1 = some (tyX6 k) := by decide +kernel
def RL : String := "CongruenceLedgerLaw"
abbrev vwCl : List vw_C := [(RX0, TX0, 4), (RX1, TX1, 3), (RX2, TX2, 1), (RX3, TX3, 4), (RX4, TX4, 1), (RX5, TX5, 7), (RX6, TX6, 16)]
abbrev cX0_init : ByteArray := prog_2_method_1_code
def yX0_init : MethodName := ⟨RX0, "<init>", "()V"⟩
abbrev cX0_push : ByteArray := prog_2_method_2_code
def yX0_push : MethodName := ⟨RX0, "push", "(III)V"⟩
abbrev cX1_init : ByteArray := prog_3_method_1_code
def yX1_init : MethodName := ⟨RX1, "<init>", "(I)V"⟩
abbrev cX1_isFull : ByteArray := prog_3_method_2_code
def yX1_isFull : MethodName := ⟨RX1, "isFull", "()Z"⟩
abbrev cX1_add : ByteArray := prog_3_method_3_code
def yX1_add : MethodName := ⟨RX1, "add", "(II)I"⟩
abbrev cX2_init : ByteArray := prog_4_method_1_code
def yX2_init : MethodName := ⟨RX2, "<init>", "()V"⟩
abbrev cX2_joins : ByteArray := prog_4_method_2_code
def yX2_joins : MethodName := ⟨RX2, "joins", "(II)Z"⟩
abbrev cX2_classCount : ByteArray := prog_4_method_3_code
def yX2_classCount : MethodName := ⟨RX2, "classCount", "(I)I"⟩
abbrev cX2_fits : ByteArray := prog_4_method_4_code
def yX2_fits : MethodName := ⟨RX2, "fits", "(LCongruenceLedger$TermTable;IIII)Z"⟩
abbrev cX2_sameArgument : ByteArray := prog_4_method_5_code
def yX2_sameArgument : MethodName := ⟨RX2, "sameArgument", "(II)Z"⟩
abbrev cX2_settle : ByteArray := prog_4_method_6_code
def yX2_settle : MethodName := ⟨RX2, "settle", "(LCongruenceLedger$TermTable;LCongruenceLedger$PairList;I)V"⟩
abbrev cX2_mergeCongruent : ByteArray := prog_4_method_7_code
def yX2_mergeCongruent : MethodName := ⟨RX2, "mergeCongruent", "(LCongruenceLedger$TermTable;)Z"⟩
abbrev cX2_congruent : ByteArray := prog_4_method_8_code
def yX2_congruent : MethodName := ⟨RX2, "congruent", "(LCongruenceLedger$TermTable;II)Z"⟩
abbrev cX2_merge : ByteArray := prog_4_method_9_code
def yX2_merge : MethodName := ⟨RX2, "merge", "(III)V"⟩
abbrev cX3_init : ByteArray := prog_5_method_1_code
def yX3_init : MethodName := ⟨RX3, "<init>", "()V"⟩
abbrev cX3_numberOf : ByteArray := prog_5_method_2_code
def yX3_numberOf : MethodName := ⟨RX3, "numberOf", "(III)I"⟩
abbrev cX3_add : ByteArray := prog_5_method_3_code
def yX3_add : MethodName := ⟨RX3, "add", "(III)I"⟩
abbrev cX4_init : ByteArray := prog_6_method_1_code
def yX4_init : MethodName := ⟨RX4, "<init>", "()V"⟩
abbrev cX4_weigh : ByteArray := prog_6_method_2_code
def yX4_weigh : MethodName := ⟨RX4, "weigh", "(LCongruenceLedger$TermTable;LCongruenceLedger$Partition;)V"⟩
abbrev cX4_lower : ByteArray := prog_6_method_3_code
def yX4_lower : MethodName := ⟨RX4, "lower", "(LCongruenceLedger$TermTable;LCongruenceLedger$Partition;)Z"⟩
abbrev cX4_costOf : ByteArray := prog_6_method_4_code
def yX4_costOf : MethodName := ⟨RX4, "costOf", "(LCongruenceLedger$TermTable;LCongruenceLedger$Partition;I)J"⟩
abbrev cX4_ofArgument : ByteArray := prog_6_method_5_code
def yX4_ofArgument : MethodName := ⟨RX4, "ofArgument", "(LCongruenceLedger$Partition;I)J"⟩
abbrev cX4_ofTerm : ByteArray := prog_6_method_6_code
def yX4_ofTerm : MethodName := ⟨RX4, "ofTerm", "(LCongruenceLedger$Partition;I)J"⟩
abbrev cX4_lightest : ByteArray := prog_6_method_7_code
def yX4_lightest : MethodName := ⟨RX4, "lightest", "(LCongruenceLedger$TermTable;LCongruenceLedger$Partition;I)I"⟩
abbrev cX4_symbolAt : ByteArray := prog_6_method_8_code
def yX4_symbolAt : MethodName := ⟨RX4, "symbolAt", "(LCongruenceLedger$TermTable;LCongruenceLedger$Partition;II)I"⟩
abbrev cX5_init : ByteArray := prog_1_method_1_code
def yX5_init : MethodName := ⟨RX5, "<init>", "()V"⟩
abbrev cX5_make : ByteArray := prog_1_method_2_code
def yX5_make : MethodName := ⟨RX5, "make", "(III)I"⟩
abbrev cX5_equate : ByteArray := prog_1_method_3_code
def yX5_equate : MethodName := ⟨RX5, "equate", "(II)I"⟩
abbrev cX5_differ : ByteArray := prog_1_method_4_code
def yX5_differ : MethodName := ⟨RX5, "differ", "(II)I"⟩
abbrev cX5_open : ByteArray := prog_1_method_5_code
def yX5_open : MethodName := ⟨RX5, "open", "()I"⟩
abbrev cX5_close : ByteArray := prog_1_method_6_code
def yX5_close : MethodName := ⟨RX5, "close", "()I"⟩
abbrev cX5_equal : ByteArray := prog_1_method_7_code
def yX5_equal : MethodName := ⟨RX5, "equal", "(II)I"⟩
abbrev cX5_apart : ByteArray := prog_1_method_8_code
def yX5_apart : MethodName := ⟨RX5, "apart", "(II)I"⟩
abbrev cX5_consistent : ByteArray := prog_1_method_9_code
def yX5_consistent : MethodName := ⟨RX5, "consistent", "()Z"⟩
abbrev cX5_leader : ByteArray := prog_1_method_10_code
def yX5_leader : MethodName := ⟨RX5, "leader", "(I)I"⟩
abbrev cX5_members : ByteArray := prog_1_method_11_code
def yX5_members : MethodName := ⟨RX5, "members", "(I)I"⟩
abbrev cX5_classes : ByteArray := prog_1_method_12_code
def yX5_classes : MethodName := ⟨RX5, "classes", "()I"⟩
abbrev cX5_find : ByteArray := prog_1_method_13_code
def yX5_find : MethodName := ⟨RX5, "find", "(III)I"⟩
abbrev cX5_since : ByteArray := prog_1_method_14_code
def yX5_since : MethodName := ⟨RX5, "since", "(II)I"⟩
abbrev cX5_explanation : ByteArray := prog_1_method_15_code
def yX5_explanation : MethodName := ⟨RX5, "explanation", "(II)I"⟩
abbrev cX5_needed : ByteArray := prog_1_method_16_code
def yX5_needed : MethodName := ⟨RX5, "needed", "(II)I"⟩
abbrev cX5_weight : ByteArray := prog_1_method_17_code
def yX5_weight : MethodName := ⟨RX5, "weight", "(I)J"⟩
abbrev cX5_best : ByteArray := prog_1_method_18_code
def yX5_best : MethodName := ⟨RX5, "best", "(I)I"⟩
abbrev cX5_written : ByteArray := prog_1_method_19_code
def yX5_written : MethodName := ⟨RX5, "written", "(II)I"⟩
abbrev cX5_terms : ByteArray := prog_1_method_20_code
def yX5_terms : MethodName := ⟨RX5, "terms", "()I"⟩
abbrev cX5_equations : ByteArray := prog_1_method_21_code
def yX5_equations : MethodName := ⟨RX5, "equations", "()I"⟩
abbrev cX5_isTerm : ByteArray := prog_1_method_22_code
def yX5_isTerm : MethodName := ⟨RX5, "isTerm", "(I)Z"⟩
abbrev cX5_areTerms : ByteArray := prog_1_method_23_code
def yX5_areTerms : MethodName := ⟨RX5, "areTerms", "(II)Z"⟩
abbrev cX5_isShape : ByteArray := prog_1_method_24_code
def yX5_isShape : MethodName := ⟨RX5, "isShape", "(III)Z"⟩
abbrev cX5_settleCurrent : ByteArray := prog_1_method_25_code
def yX5_settleCurrent : MethodName := ⟨RX5, "settleCurrent", "()V"⟩
abbrev cX5_followsFrom : ByteArray := prog_1_method_26_code
def yX5_followsFrom : MethodName := ⟨RX5, "followsFrom", "(III)Z"⟩
abbrev cX5_allBelow : ByteArray := prog_1_method_27_code
def yX5_allBelow : MethodName := ⟨RX5, "allBelow", "(I)I"⟩
abbrev cX6_init : ByteArray := prog_8_method_1_code
def yX6_init : MethodName := ⟨RX6, "<init>", "()V"⟩
abbrev cX6_isTerm : ByteArray := prog_8_method_2_code
def yX6_isTerm : MethodName := ⟨RX6, "isTerm", "(I)Z"⟩
abbrev cX6_alone : ByteArray := prog_8_method_3_code
def yX6_alone : MethodName := ⟨RX6, "alone", "()V"⟩
abbrev cX6_join : ByteArray := prog_8_method_4_code
def yX6_join : MethodName := ⟨RX6, "join", "(II)V"⟩
abbrev cX6_sameArgument : ByteArray := prog_8_method_5_code
def yX6_sameArgument : MethodName := ⟨RX6, "sameArgument", "(II)Z"⟩
abbrev cX6_alike : ByteArray := prog_8_method_6_code
def yX6_alike : MethodName := ⟨RX6, "alike", "(II)Z"⟩
abbrev cX6_settle : ByteArray := prog_8_method_7_code
def yX6_settle : MethodName := ⟨RX6, "settle", "()V"⟩
abbrev cX6_work : ByteArray := prog_8_method_8_code
def yX6_work : MethodName := ⟨RX6, "work", "(II)V"⟩
abbrev cX6_workAll : ByteArray := prog_8_method_9_code
def yX6_workAll : MethodName := ⟨RX6, "workAll", "()V"⟩
abbrev cX6_joined : ByteArray := prog_8_method_10_code
def yX6_joined : MethodName := ⟨RX6, "joined", "(II)Z"⟩
abbrev cX6_first : ByteArray := prog_8_method_11_code
def yX6_first : MethodName := ⟨RX6, "first", "(III)I"⟩
abbrev cX6_kinds : ByteArray := prog_8_method_12_code
def yX6_kinds : MethodName := ⟨RX6, "kinds", "()I"⟩
abbrev cX6_wrongParts : ByteArray := prog_8_method_13_code
def yX6_wrongParts : MethodName := ⟨RX6, "wrongParts", "(III)Z"⟩
abbrev cX6_make : ByteArray := prog_8_method_14_code
def yX6_make : MethodName := ⟨RX6, "make", "(III)I"⟩
abbrev cX6_equate : ByteArray := prog_8_method_15_code
def yX6_equate : MethodName := ⟨RX6, "equate", "(II)I"⟩
abbrev cX6_differ : ByteArray := prog_8_method_16_code
def yX6_differ : MethodName := ⟨RX6, "differ", "(II)I"⟩
abbrev cX6_open : ByteArray := prog_8_method_17_code
def yX6_open : MethodName := ⟨RX6, "open", "()I"⟩
abbrev cX6_close : ByteArray := prog_8_method_18_code
def yX6_close : MethodName := ⟨RX6, "close", "()I"⟩
abbrev cX6_equal : ByteArray := prog_8_method_19_code
def yX6_equal : MethodName := ⟨RX6, "equal", "(II)I"⟩
abbrev cX6_apart : ByteArray := prog_8_method_20_code
def yX6_apart : MethodName := ⟨RX6, "apart", "(II)I"⟩
abbrev cX6_consistent : ByteArray := prog_8_method_21_code
def yX6_consistent : MethodName := ⟨RX6, "consistent", "()Z"⟩
abbrev cX6_leader : ByteArray := prog_8_method_22_code
def yX6_leader : MethodName := ⟨RX6, "leader", "(I)I"⟩
abbrev cX6_members : ByteArray := prog_8_method_23_code
def yX6_members : MethodName := ⟨RX6, "members", "(I)I"⟩
abbrev cX6_classes : ByteArray := prog_8_method_24_code
def yX6_classes : MethodName := ⟨RX6, "classes", "()I"⟩
abbrev cX6_find : ByteArray := prog_8_method_25_code
def yX6_find : MethodName := ⟨RX6, "find", "(III)I"⟩
abbrev cX6_since : ByteArray := prog_8_method_26_code
def yX6_since : MethodName := ⟨RX6, "since", "(II)I"⟩
abbrev cX6_explanation : ByteArray := prog_8_method_27_code
def yX6_explanation : MethodName := ⟨RX6, "explanation", "(II)I"⟩
abbrev cX6_needed : ByteArray := prog_8_method_28_code
def yX6_needed : MethodName := ⟨RX6, "needed", "(II)I"⟩
abbrev cX6_argument : ByteArray := prog_8_method_29_code
def yX6_argument : MethodName := ⟨RX6, "argument", "(I)J"⟩
abbrev cX6_sum : ByteArray := prog_8_method_30_code
def yX6_sum : MethodName := ⟨RX6, "sum", "(I)J"⟩
abbrev cX6_weigh : ByteArray := prog_8_method_31_code
def yX6_weigh : MethodName := ⟨RX6, "weigh", "()V"⟩
abbrev cX6_bestOf : ByteArray := prog_8_method_32_code
def yX6_bestOf : MethodName := ⟨RX6, "bestOf", "(I)I"⟩
abbrev cX6_weight : ByteArray := prog_8_method_33_code
def yX6_weight : MethodName := ⟨RX6, "weight", "(I)J"⟩
abbrev cX6_best : ByteArray := prog_8_method_34_code
def yX6_best : MethodName := ⟨RX6, "best", "(I)I"⟩
abbrev cX6_written : ByteArray := prog_8_method_35_code
def yX6_written : MethodName := ⟨RX6, "written", "(II)I"⟩
abbrev cX6_terms : ByteArray := prog_8_method_36_code
def yX6_terms : MethodName := ⟨RX6, "terms", "()I"⟩
abbrev cX6_equations : ByteArray := prog_8_method_37_code
def yX6_equations : MethodName := ⟨RX6, "equations", "()I"⟩
abbrev cAr_fill : ByteArray := prog_10_method_101_code
def yAr_fill : MethodName := ⟨"java/util/Arrays", "fill", "([JJ)V"⟩
def RAr : String := "java/util/Arrays"
theorem hdAr_fill : yAr_fill.cls = RAr ∧ yAr_fill.cls ≠ "java/lang/invoke/MethodHandle" ∧ yAr_fill.cls ≠ "java/lang/invoke/VarHandle" ∧ (parseMethodDescriptor yAr_fill.desc).map (fun d => d.parameters.length) = some 2 := by decide +kernel
/-- the words that every contract of mine takes -/
def tbw : List Cond := lw_tbl.filter goodWord
theorem tb_gw {w : Cond} (h : w ∈ tbw) : (w.onTables && w.keeps) = true ∨ ∃ ty, w = .arrayClass ty := good_of_word (List.mem_filter.mp h).2
theorem tb_all {A : List Cond} {c2 : Cond} (hA : ∀ w ∈ A, w ∈ tbw) (h2 : c2 ∈ tbw) : ∀ w ∈ A ++ (c2 :: tbw), w ∈ tbw := fun w hw => (List.mem_append.mp hw).elim (hA w) (fun h => (List.mem_cons.mp h).elim (fun e => e ▸ h2) id)
theorem tb_in2 {c1 c2 : Cond} (h2 : c2 ∈ tbw) : GoodIn (c1 :: tbw) (c2 :: tbw) := fun w hw => (List.mem_cons.mp hw).elim (fun e => e ▸ ⟨List.mem_cons_of_mem _ h2, tb_gw h2⟩) (fun h => ⟨List.mem_cons_of_mem _ h, tb_gw h⟩)
theorem tb_c {c1 : Cond} {A : List Cond} (hA : ∀ w ∈ A, w ∈ tbw) : ∀ w ∈ A, w ∈ c1 :: tbw := fun w hw => List.mem_cons_of_mem _ (hA w hw)
theorem tb_in {c1 : Cond} {A : List Cond} (hA : ∀ w ∈ A, w ∈ tbw) : GoodIn (c1 :: tbw) A := fun w hw => ⟨List.mem_cons_of_mem _ (hA w hw), tb_gw (hA w hw)⟩
theorem tw_0 : Cond.initialized RL ∈ tbw := List.mem_filter.mpr ⟨List.mem_of_getElem? (i := 28) (by decide +kernel), by decide +kernel⟩
theorem tw_1 : Cond.initialized RX5 ∈ tbw := List.mem_filter.mpr ⟨List.mem_of_getElem? (i := 29) (by decide +kernel), by decide +kernel⟩
theorem tw_2 : Cond.initialized RX3 ∈ tbw := List.mem_filter.mpr ⟨List.mem_of_getElem? (i := 30) (by decide +kernel), by decide +kernel⟩
theorem tw_3 : Cond.initialized RX1 ∈ tbw := List.mem_filter.mpr ⟨List.mem_of_getElem? (i := 31) (by decide +kernel), by decide +kernel⟩
theorem tw_4 : Cond.initialized RX0 ∈ tbw := List.mem_filter.mpr ⟨List.mem_of_getElem? (i := 32) (by decide +kernel), by decide +kernel⟩
theorem tw_5 : Cond.initialized RX2 ∈ tbw := List.mem_filter.mpr ⟨List.mem_of_getElem? (i := 33) (by decide +kernel), by decide +kernel⟩
theorem tw_6 : Cond.initialized RX4 ∈ tbw := List.mem_filter.mpr ⟨List.mem_of_getElem? (i := 34) (by decide +kernel), by decide +kernel⟩
theorem tw_7 : Cond.initialized RX6 ∈ tbw := List.mem_filter.mpr ⟨List.mem_of_getElem? (i := 35) (by decide +kernel), by decide +kernel⟩
theorem tw_8 : Cond.initialized "java/lang/Math" ∈ tbw := List.mem_filter.mpr ⟨List.mem_of_getElem? (i := 36) (by decide +kernel), by decide +kernel⟩
theorem tw_9 : Cond.initialized "java/util/Arrays" ∈ tbw := List.mem_filter.mpr ⟨List.mem_of_getElem? (i := 37) (by decide +kernel), by decide +kernel⟩
theorem tw_10 : Cond.classLink RL 7 RX5 ∈ tbw := List.mem_filter.mpr ⟨List.mem_of_getElem? (i := 38) (by decide +kernel), by decide +kernel⟩
theorem tw_11 : Cond.instantiable RX5 7 ∈ tbw := List.mem_filter.mpr ⟨List.mem_of_getElem? (i := 39) (by decide +kernel), by decide +kernel⟩
theorem tw_12 : Cond.methodLink RL 9 yX5_init ∈ tbw := List.mem_filter.mpr ⟨List.mem_of_getElem? (i := 40) (by decide +kernel), by decide +kernel⟩
theorem tw_13 : Cond.instanceMethod yX5_init ∈ tbw := List.mem_filter.mpr ⟨List.mem_of_getElem? (i := 41) (by decide +kernel), by decide +kernel⟩
theorem tw_14 : Cond.code yX5_init cX5_init 1 none ∈ tbw := List.mem_filter.mpr ⟨List.mem_of_getElem? (i := 42) (by decide +kernel), by decide +kernel⟩
theorem tw_15 : Cond.methodLink RX5 1 objectInit ∈ tbw := List.mem_filter.mpr ⟨List.mem_of_getElem? (i := 43) (by decide +kernel), by decide +kernel⟩
theorem tw_16 : Cond.instanceMethod objectInit ∈ tbw := List.mem_filter.mpr ⟨List.mem_of_getElem? (i := 44) (by decide +kernel), by decide +kernel⟩
theorem tw_17 : Cond.code objectInit ⟨#[0xb1]⟩ 1 none ∈ tbw := List.mem_filter.mpr ⟨List.mem_of_getElem? (i := 45) (by decide +kernel), by decide +kernel⟩
theorem tw_18 : Cond.classLink RX5 7 RX3 ∈ tbw := List.mem_filter.mpr ⟨List.mem_of_getElem? (i := 46) (by decide +kernel), by decide +kernel⟩
theorem tw_19 : Cond.instantiable RX3 4 ∈ tbw := List.mem_filter.mpr ⟨List.mem_of_getElem? (i := 47) (by decide +kernel), by decide +kernel⟩
theorem tw_21 : Cond.instanceMethod yX3_init ∈ tbw := List.mem_filter.mpr ⟨List.mem_of_getElem? (i := 49) (by decide +kernel), by decide +kernel⟩
theorem tw_22 : Cond.code yX3_init cX3_init 1 none ∈ tbw := List.mem_filter.mpr ⟨List.mem_of_getElem? (i := 50) (by decide +kernel), by decide +kernel⟩
theorem tw_23 : Cond.methodLink RX3 3 objectInit ∈ tbw := List.mem_filter.mpr ⟨List.mem_of_getElem? (i := 51) (by decide +kernel), by decide +kernel⟩
theorem tw_24 : Cond.fieldLink RX3 9 "CongruenceLedger$TermTable" "symbols" "[I" ∈ tbw := List.mem_filter.mpr ⟨List.mem_of_getElem? (i := 52) (by decide +kernel), by decide +kernel⟩
theorem tw_25 : Cond.fieldLink RX2 15 "CongruenceLedger$TermTable" "symbols" "[I" ∈ tbw := List.mem_filter.mpr ⟨List.mem_of_getElem? (i := 53) (by decide +kernel), by decide +kernel⟩
theorem tw_26 : Cond.fieldLink RX4 64 "CongruenceLedger$TermTable" "symbols" "[I" ∈ tbw := List.mem_filter.mpr ⟨List.mem_of_getElem? (i := 54) (by decide +kernel), by decide +kernel⟩
theorem tw_27 : Cond.fieldLink RX3 15 "CongruenceLedger$TermTable" "firsts" "[I" ∈ tbw := List.mem_filter.mpr ⟨List.mem_of_getElem? (i := 55) (by decide +kernel), by decide +kernel⟩
theorem tw_28 : Cond.fieldLink RX4 43 "CongruenceLedger$TermTable" "firsts" "[I" ∈ tbw := List.mem_filter.mpr ⟨List.mem_of_getElem? (i := 56) (by decide +kernel), by decide +kernel⟩
theorem tw_29 : Cond.fieldLink RX2 20 "CongruenceLedger$TermTable" "firsts" "[I" ∈ tbw := List.mem_filter.mpr ⟨List.mem_of_getElem? (i := 57) (by decide +kernel), by decide +kernel⟩
theorem tw_30 : Cond.fieldLink RX3 18 "CongruenceLedger$TermTable" "seconds" "[I" ∈ tbw := List.mem_filter.mpr ⟨List.mem_of_getElem? (i := 58) (by decide +kernel), by decide +kernel⟩
theorem tw_31 : Cond.fieldLink RX4 50 "CongruenceLedger$TermTable" "seconds" "[I" ∈ tbw := List.mem_filter.mpr ⟨List.mem_of_getElem? (i := 59) (by decide +kernel), by decide +kernel⟩
theorem tw_32 : Cond.fieldLink RX2 27 "CongruenceLedger$TermTable" "seconds" "[I" ∈ tbw := List.mem_filter.mpr ⟨List.mem_of_getElem? (i := 60) (by decide +kernel), by decide +kernel⟩
theorem tw_33 : Cond.fieldLink RX3 21 "CongruenceLedger$TermTable" "count" "I" ∈ tbw := List.mem_filter.mpr ⟨List.mem_of_getElem? (i := 61) (by decide +kernel), by decide +kernel⟩
theorem tw_34 : Cond.fieldLink RX4 23 "CongruenceLedger$TermTable" "count" "I" ∈ tbw := List.mem_filter.mpr ⟨List.mem_of_getElem? (i := 62) (by decide +kernel), by decide +kernel⟩
theorem tw_35 : Cond.fieldLink RX5 60 "CongruenceLedger$TermTable" "count" "I" ∈ tbw := List.mem_filter.mpr ⟨List.mem_of_getElem? (i := 63) (by decide +kernel), by decide +kernel⟩
theorem tw_36 : Cond.fieldLink RX2 33 "CongruenceLedger$TermTable" "count" "I" ∈ tbw := List.mem_filter.mpr ⟨List.mem_of_getElem? (i := 64) (by decide +kernel), by decide +kernel⟩
theorem tw_37 : Cond.laysFinal RX3 "CongruenceLedger$TermTable" "symbols" "[I" ∈ tbw := List.mem_filter.mpr ⟨List.mem_of_getElem? (i := 65) (by decide +kernel), by decide +kernel⟩
theorem tw_39 : Cond.laysFinal RX3 "CongruenceLedger$TermTable" "firsts" "[I" ∈ tbw := List.mem_filter.mpr ⟨List.mem_of_getElem? (i := 67) (by decide +kernel), by decide +kernel⟩
theorem tw_41 : Cond.laysFinal RX3 "CongruenceLedger$TermTable" "seconds" "[I" ∈ tbw := List.mem_filter.mpr ⟨List.mem_of_getElem? (i := 69) (by decide +kernel), by decide +kernel⟩
theorem tw_43 : Cond.lays RX3 "CongruenceLedger$TermTable" "count" "I" ∈ tbw := List.mem_filter.mpr ⟨List.mem_of_getElem? (i := 71) (by decide +kernel), by decide +kernel⟩
theorem tw_46 : Cond.arrayClass .int ∈ tbw := List.mem_filter.mpr ⟨List.mem_of_getElem? (i := 74) (by decide +kernel), by decide +kernel⟩
theorem tw_47 : Cond.classLink RX5 16 RX1 ∈ tbw := List.mem_filter.mpr ⟨List.mem_of_getElem? (i := 75) (by decide +kernel), by decide +kernel⟩
theorem tw_48 : Cond.instantiable RX1 3 ∈ tbw := List.mem_filter.mpr ⟨List.mem_of_getElem? (i := 76) (by decide +kernel), by decide +kernel⟩
theorem tw_49 : Cond.methodLink RX5 18 yX1_init ∈ tbw := List.mem_filter.mpr ⟨List.mem_of_getElem? (i := 77) (by decide +kernel), by decide +kernel⟩
theorem tw_50 : Cond.instanceMethod yX1_init ∈ tbw := List.mem_filter.mpr ⟨List.mem_of_getElem? (i := 78) (by decide +kernel), by decide +kernel⟩
theorem tw_51 : Cond.code yX1_init cX1_init 2 none ∈ tbw := List.mem_filter.mpr ⟨List.mem_of_getElem? (i := 79) (by decide +kernel), by decide +kernel⟩
theorem tw_52 : Cond.methodLink RX1 1 objectInit ∈ tbw := List.mem_filter.mpr ⟨List.mem_of_getElem? (i := 80) (by decide +kernel), by decide +kernel⟩
theorem tw_53 : Cond.fieldLink RX1 13 "CongruenceLedger$PairList" "lefts" "[I" ∈ tbw := List.mem_filter.mpr ⟨List.mem_of_getElem? (i := 81) (by decide +kernel), by decide +kernel⟩
theorem tw_54 : Cond.fieldLink RX2 40 "CongruenceLedger$PairList" "lefts" "[I" ∈ tbw := List.mem_filter.mpr ⟨List.mem_of_getElem? (i := 82) (by decide +kernel), by decide +kernel⟩
theorem tw_55 : Cond.fieldLink RX5 106 "CongruenceLedger$PairList" "lefts" "[I" ∈ tbw := List.mem_filter.mpr ⟨List.mem_of_getElem? (i := 83) (by decide +kernel), by decide +kernel⟩
theorem tw_56 : Cond.fieldLink RX1 17 "CongruenceLedger$PairList" "rights" "[I" ∈ tbw := List.mem_filter.mpr ⟨List.mem_of_getElem? (i := 84) (by decide +kernel), by decide +kernel⟩
theorem tw_57 : Cond.fieldLink RX2 43 "CongruenceLedger$PairList" "rights" "[I" ∈ tbw := List.mem_filter.mpr ⟨List.mem_of_getElem? (i := 85) (by decide +kernel), by decide +kernel⟩
theorem tw_58 : Cond.fieldLink RX5 109 "CongruenceLedger$PairList" "rights" "[I" ∈ tbw := List.mem_filter.mpr ⟨List.mem_of_getElem? (i := 86) (by decide +kernel), by decide +kernel⟩
theorem tw_59 : Cond.fieldLink RX1 7 "CongruenceLedger$PairList" "count" "I" ∈ tbw := List.mem_filter.mpr ⟨List.mem_of_getElem? (i := 87) (by decide +kernel), by decide +kernel⟩
theorem tw_60 : Cond.fieldLink RX5 88 "CongruenceLedger$PairList" "count" "I" ∈ tbw := List.mem_filter.mpr ⟨List.mem_of_getElem? (i := 88) (by decide +kernel), by decide +kernel⟩
theorem tw_61 : Cond.fieldLink RX2 37 "CongruenceLedger$PairList" "count" "I" ∈ tbw := List.mem_filter.mpr ⟨List.mem_of_getElem? (i := 89) (by decide +kernel), by decide +kernel⟩
theorem tw_62 : Cond.laysFinal RX1 "CongruenceLedger$PairList" "lefts" "[I" ∈ tbw := List.mem_filter.mpr ⟨List.mem_of_getElem? (i := 90) (by decide +kernel), by decide +kernel⟩
theorem tw_64 : Cond.laysFinal RX1 "CongruenceLedger$PairList" "rights" "[I" ∈ tbw := List.mem_filter.mpr ⟨List.mem_of_getElem? (i := 92) (by decide +kernel), by decide +kernel⟩
theorem tw_66 : Cond.lays RX1 "CongruenceLedger$PairList" "count" "I" ∈ tbw := List.mem_filter.mpr ⟨List.mem_of_getElem? (i := 94) (by decide +kernel), by decide +kernel⟩
theorem tw_69 : Cond.classLink RX5 28 RX0 ∈ tbw := List.mem_filter.mpr ⟨List.mem_of_getElem? (i := 97) (by decide +kernel), by decide +kernel⟩
theorem tw_70 : Cond.instantiable RX0 4 ∈ tbw := List.mem_filter.mpr ⟨List.mem_of_getElem? (i := 98) (by decide +kernel), by decide +kernel⟩
theorem tw_72 : Cond.instanceMethod yX0_init ∈ tbw := List.mem_filter.mpr ⟨List.mem_of_getElem? (i := 100) (by decide +kernel), by decide +kernel⟩
theorem tw_73 : Cond.code yX0_init cX0_init 1 none ∈ tbw := List.mem_filter.mpr ⟨List.mem_of_getElem? (i := 101) (by decide +kernel), by decide +kernel⟩
theorem tw_74 : Cond.methodLink RX0 3 objectInit ∈ tbw := List.mem_filter.mpr ⟨List.mem_of_getElem? (i := 102) (by decide +kernel), by decide +kernel⟩
theorem tw_75 : Cond.fieldLink RX0 9 "CongruenceLedger$LevelStack" "termCounts" "[I" ∈ tbw := List.mem_filter.mpr ⟨List.mem_of_getElem? (i := 103) (by decide +kernel), by decide +kernel⟩
theorem tw_76 : Cond.fieldLink RX5 93 "CongruenceLedger$LevelStack" "termCounts" "[I" ∈ tbw := List.mem_filter.mpr ⟨List.mem_of_getElem? (i := 104) (by decide +kernel), by decide +kernel⟩
theorem tw_77 : Cond.fieldLink RX0 15 "CongruenceLedger$LevelStack" "equationCounts" "[I" ∈ tbw := List.mem_filter.mpr ⟨List.mem_of_getElem? (i := 105) (by decide +kernel), by decide +kernel⟩
theorem tw_78 : Cond.fieldLink RX5 97 "CongruenceLedger$LevelStack" "equationCounts" "[I" ∈ tbw := List.mem_filter.mpr ⟨List.mem_of_getElem? (i := 106) (by decide +kernel), by decide +kernel⟩
theorem tw_79 : Cond.fieldLink RX0 18 "CongruenceLedger$LevelStack" "disequationCounts" "[I" ∈ tbw := List.mem_filter.mpr ⟨List.mem_of_getElem? (i := 107) (by decide +kernel), by decide +kernel⟩
theorem tw_80 : Cond.fieldLink RX5 100 "CongruenceLedger$LevelStack" "disequationCounts" "[I" ∈ tbw := List.mem_filter.mpr ⟨List.mem_of_getElem? (i := 108) (by decide +kernel), by decide +kernel⟩
theorem tw_81 : Cond.fieldLink RX0 21 "CongruenceLedger$LevelStack" "depth" "I" ∈ tbw := List.mem_filter.mpr ⟨List.mem_of_getElem? (i := 109) (by decide +kernel), by decide +kernel⟩
theorem tw_82 : Cond.fieldLink RX5 85 "CongruenceLedger$LevelStack" "depth" "I" ∈ tbw := List.mem_filter.mpr ⟨List.mem_of_getElem? (i := 110) (by decide +kernel), by decide +kernel⟩
theorem tw_83 : Cond.laysFinal RX0 "CongruenceLedger$LevelStack" "termCounts" "[I" ∈ tbw := List.mem_filter.mpr ⟨List.mem_of_getElem? (i := 111) (by decide +kernel), by decide +kernel⟩
theorem tw_85 : Cond.laysFinal RX0 "CongruenceLedger$LevelStack" "equationCounts" "[I" ∈ tbw := List.mem_filter.mpr ⟨List.mem_of_getElem? (i := 113) (by decide +kernel), by decide +kernel⟩
theorem tw_87 : Cond.laysFinal RX0 "CongruenceLedger$LevelStack" "disequationCounts" "[I" ∈ tbw := List.mem_filter.mpr ⟨List.mem_of_getElem? (i := 115) (by decide +kernel), by decide +kernel⟩
theorem tw_89 : Cond.lays RX0 "CongruenceLedger$LevelStack" "depth" "I" ∈ tbw := List.mem_filter.mpr ⟨List.mem_of_getElem? (i := 117) (by decide +kernel), by decide +kernel⟩
theorem tw_92 : Cond.classLink RX5 35 RX2 ∈ tbw := List.mem_filter.mpr ⟨List.mem_of_getElem? (i := 120) (by decide +kernel), by decide +kernel⟩
theorem tw_93 : Cond.instantiable RX2 1 ∈ tbw := List.mem_filter.mpr ⟨List.mem_of_getElem? (i := 121) (by decide +kernel), by decide +kernel⟩
theorem tw_95 : Cond.instanceMethod yX2_init ∈ tbw := List.mem_filter.mpr ⟨List.mem_of_getElem? (i := 123) (by decide +kernel), by decide +kernel⟩
theorem tw_96 : Cond.code yX2_init cX2_init 1 none ∈ tbw := List.mem_filter.mpr ⟨List.mem_of_getElem? (i := 124) (by decide +kernel), by decide +kernel⟩
theorem tw_97 : Cond.methodLink RX2 3 objectInit ∈ tbw := List.mem_filter.mpr ⟨List.mem_of_getElem? (i := 125) (by decide +kernel), by decide +kernel⟩
theorem tw_98 : Cond.fieldLink RX2 9 "CongruenceLedger$Partition" "lowest" "[I" ∈ tbw := List.mem_filter.mpr ⟨List.mem_of_getElem? (i := 126) (by decide +kernel), by decide +kernel⟩
theorem tw_99 : Cond.fieldLink RX4 37 "CongruenceLedger$Partition" "lowest" "[I" ∈ tbw := List.mem_filter.mpr ⟨List.mem_of_getElem? (i := 127) (by decide +kernel), by decide +kernel⟩
theorem tw_100 : Cond.fieldLink RX5 116 "CongruenceLedger$Partition" "lowest" "[I" ∈ tbw := List.mem_filter.mpr ⟨List.mem_of_getElem? (i := 128) (by decide +kernel), by decide +kernel⟩
theorem tw_101 : Cond.laysFinal RX2 "CongruenceLedger$Partition" "lowest" "[I" ∈ tbw := List.mem_filter.mpr ⟨List.mem_of_getElem? (i := 129) (by decide +kernel), by decide +kernel⟩
theorem tw_104 : Cond.classLink RX5 45 RX4 ∈ tbw := List.mem_filter.mpr ⟨List.mem_of_getElem? (i := 132) (by decide +kernel), by decide +kernel⟩
theorem tw_105 : Cond.instantiable RX4 1 ∈ tbw := List.mem_filter.mpr ⟨List.mem_of_getElem? (i := 133) (by decide +kernel), by decide +kernel⟩
theorem tw_107 : Cond.instanceMethod yX4_init ∈ tbw := List.mem_filter.mpr ⟨List.mem_of_getElem? (i := 135) (by decide +kernel), by decide +kernel⟩
theorem tw_108 : Cond.code yX4_init cX4_init 1 none ∈ tbw := List.mem_filter.mpr ⟨List.mem_of_getElem? (i := 136) (by decide +kernel), by decide +kernel⟩
theorem tw_109 : Cond.methodLink RX4 3 objectInit ∈ tbw := List.mem_filter.mpr ⟨List.mem_of_getElem? (i := 137) (by decide +kernel), by decide +kernel⟩
theorem tw_110 : Cond.fieldLink RX4 9 "CongruenceLedger$WeightTable" "ofClass" "[J" ∈ tbw := List.mem_filter.mpr ⟨List.mem_of_getElem? (i := 138) (by decide +kernel), by decide +kernel⟩
theorem tw_111 : Cond.laysFinal RX4 "CongruenceLedger$WeightTable" "ofClass" "[J" ∈ tbw := List.mem_filter.mpr ⟨List.mem_of_getElem? (i := 139) (by decide +kernel), by decide +kernel⟩
theorem tw_114 : Cond.arrayClass .long ∈ tbw := List.mem_filter.mpr ⟨List.mem_of_getElem? (i := 142) (by decide +kernel), by decide +kernel⟩
theorem tw_115 : Cond.fieldLink RX5 10 "CongruenceLedger" "termTable" "LCongruenceLedger$TermTable;" ∈ tbw := List.mem_filter.mpr ⟨List.mem_of_getElem? (i := 143) (by decide +kernel), by decide +kernel⟩
theorem tw_116 : Cond.fieldLink RX5 21 "CongruenceLedger" "equationList" "LCongruenceLedger$PairList;" ∈ tbw := List.mem_filter.mpr ⟨List.mem_of_getElem? (i := 144) (by decide +kernel), by decide +kernel⟩
theorem tw_117 : Cond.fieldLink RX5 25 "CongruenceLedger" "disequationList" "LCongruenceLedger$PairList;" ∈ tbw := List.mem_filter.mpr ⟨List.mem_of_getElem? (i := 145) (by decide +kernel), by decide +kernel⟩
theorem tw_118 : Cond.fieldLink RX5 31 "CongruenceLedger" "levels" "LCongruenceLedger$LevelStack;" ∈ tbw := List.mem_filter.mpr ⟨List.mem_of_getElem? (i := 146) (by decide +kernel), by decide +kernel⟩
theorem tw_119 : Cond.fieldLink RX5 38 "CongruenceLedger" "current" "LCongruenceLedger$Partition;" ∈ tbw := List.mem_filter.mpr ⟨List.mem_of_getElem? (i := 147) (by decide +kernel), by decide +kernel⟩
theorem tw_120 : Cond.fieldLink RX5 42 "CongruenceLedger" "trial" "LCongruenceLedger$Partition;" ∈ tbw := List.mem_filter.mpr ⟨List.mem_of_getElem? (i := 148) (by decide +kernel), by decide +kernel⟩
theorem tw_121 : Cond.fieldLink RX5 48 "CongruenceLedger" "weights" "LCongruenceLedger$WeightTable;" ∈ tbw := List.mem_filter.mpr ⟨List.mem_of_getElem? (i := 149) (by decide +kernel), by decide +kernel⟩
theorem tw_122 : Cond.laysFinal RX5 "CongruenceLedger" "termTable" "LCongruenceLedger$TermTable;" ∈ tbw := List.mem_filter.mpr ⟨List.mem_of_getElem? (i := 150) (by decide +kernel), by decide +kernel⟩
theorem tw_124 : Cond.laysFinal RX5 "CongruenceLedger" "equationList" "LCongruenceLedger$PairList;" ∈ tbw := List.mem_filter.mpr ⟨List.mem_of_getElem? (i := 152) (by decide +kernel), by decide +kernel⟩
theorem tw_126 : Cond.laysFinal RX5 "CongruenceLedger" "disequationList" "LCongruenceLedger$PairList;" ∈ tbw := List.mem_filter.mpr ⟨List.mem_of_getElem? (i := 154) (by decide +kernel), by decide +kernel⟩
theorem tw_128 : Cond.laysFinal RX5 "CongruenceLedger" "levels" "LCongruenceLedger$LevelStack;" ∈ tbw := List.mem_filter.mpr ⟨List.mem_of_getElem? (i := 156) (by decide +kernel), by decide +kernel⟩
theorem tw_130 : Cond.laysFinal RX5 "CongruenceLedger" "current" "LCongruenceLedger$Partition;" ∈ tbw := List.mem_filter.mpr ⟨List.mem_of_getElem? (i := 158) (by decide +kernel), by decide +kernel⟩
theorem tw_132 : Cond.laysFinal RX5 "CongruenceLedger" "trial" "LCongruenceLedger$Partition;" ∈ tbw := List.mem_filter.mpr ⟨List.mem_of_getElem? (i := 160) (by decide +kernel), by decide +kernel⟩
theorem tw_134 : Cond.laysFinal RX5 "CongruenceLedger" "weights" "LCongruenceLedger$WeightTable;" ∈ tbw := List.mem_filter.mpr ⟨List.mem_of_getElem? (i := 162) (by decide +kernel), by decide +kernel⟩
theorem tw_137 : Cond.methodLink RL 13 yX5_make ∈ tbw := List.mem_filter.mpr ⟨List.mem_of_getElem? (i := 165) (by decide +kernel), by decide +kernel⟩
theorem tw_138 : Cond.instanceMethod yX5_make ∈ tbw := List.mem_filter.mpr ⟨List.mem_of_getElem? (i := 166) (by decide +kernel), by decide +kernel⟩
theorem tw_139 : Cond.selects RX5 yX5_make yX5_make ∈ tbw := List.mem_filter.mpr ⟨List.mem_of_getElem? (i := 167) (by decide +kernel), by decide +kernel⟩
theorem tw_140 : Cond.code yX5_make cX5_make 6 (some .int) ∈ tbw := List.mem_filter.mpr ⟨List.mem_of_getElem? (i := 168) (by decide +kernel), by decide +kernel⟩
theorem tw_141 : Cond.methodLink RX5 52 yX5_isShape ∈ tbw := List.mem_filter.mpr ⟨List.mem_of_getElem? (i := 169) (by decide +kernel), by decide +kernel⟩
theorem tw_143 : Cond.instanceMethod yX5_isShape ∈ tbw := List.mem_filter.mpr ⟨List.mem_of_getElem? (i := 171) (by decide +kernel), by decide +kernel⟩
theorem tw_144 : Cond.code yX5_isShape cX5_isShape 4 (some .boolean) ∈ tbw := List.mem_filter.mpr ⟨List.mem_of_getElem? (i := 172) (by decide +kernel), by decide +kernel⟩
theorem tw_145 : Cond.methodLink RX5 112 yX5_isTerm ∈ tbw := List.mem_filter.mpr ⟨List.mem_of_getElem? (i := 173) (by decide +kernel), by decide +kernel⟩
theorem tw_147 : Cond.instanceMethod yX5_isTerm ∈ tbw := List.mem_filter.mpr ⟨List.mem_of_getElem? (i := 175) (by decide +kernel), by decide +kernel⟩
theorem tw_148 : Cond.code yX5_isTerm cX5_isTerm 2 (some .boolean) ∈ tbw := List.mem_filter.mpr ⟨List.mem_of_getElem? (i := 176) (by decide +kernel), by decide +kernel⟩
theorem tw_149 : Cond.methodLink RX5 56 yX3_numberOf ∈ tbw := List.mem_filter.mpr ⟨List.mem_of_getElem? (i := 177) (by decide +kernel), by decide +kernel⟩
theorem tw_150 : Cond.instanceMethod yX3_numberOf ∈ tbw := List.mem_filter.mpr ⟨List.mem_of_getElem? (i := 178) (by decide +kernel), by decide +kernel⟩
theorem tw_151 : Cond.selects RX3 yX3_numberOf yX3_numberOf ∈ tbw := List.mem_filter.mpr ⟨List.mem_of_getElem? (i := 179) (by decide +kernel), by decide +kernel⟩
theorem tw_152 : Cond.code yX3_numberOf cX3_numberOf 5 (some .int) ∈ tbw := List.mem_filter.mpr ⟨List.mem_of_getElem? (i := 180) (by decide +kernel), by decide +kernel⟩
theorem tw_153 : Cond.methodLink RX5 64 yX3_add ∈ tbw := List.mem_filter.mpr ⟨List.mem_of_getElem? (i := 181) (by decide +kernel), by decide +kernel⟩
theorem tw_154 : Cond.instanceMethod yX3_add ∈ tbw := List.mem_filter.mpr ⟨List.mem_of_getElem? (i := 182) (by decide +kernel), by decide +kernel⟩
theorem tw_155 : Cond.selects RX3 yX3_add yX3_add ∈ tbw := List.mem_filter.mpr ⟨List.mem_of_getElem? (i := 183) (by decide +kernel), by decide +kernel⟩
theorem tw_156 : Cond.code yX3_add cX3_add 4 (some .int) ∈ tbw := List.mem_filter.mpr ⟨List.mem_of_getElem? (i := 184) (by decide +kernel), by decide +kernel⟩
theorem tw_157 : Cond.methodLink RX5 67 yX5_settleCurrent ∈ tbw := List.mem_filter.mpr ⟨List.mem_of_getElem? (i := 185) (by decide +kernel), by decide +kernel⟩
theorem tw_159 : Cond.instanceMethod yX5_settleCurrent ∈ tbw := List.mem_filter.mpr ⟨List.mem_of_getElem? (i := 187) (by decide +kernel), by decide +kernel⟩
theorem tw_160 : Cond.code yX5_settleCurrent cX5_settleCurrent 1 none ∈ tbw := List.mem_filter.mpr ⟨List.mem_of_getElem? (i := 188) (by decide +kernel), by decide +kernel⟩
theorem tw_161 : Cond.methodLink RX5 123 yX5_allBelow ∈ tbw := List.mem_filter.mpr ⟨List.mem_of_getElem? (i := 189) (by decide +kernel), by decide +kernel⟩
theorem tw_162 : Cond.static yX5_allBelow ∈ tbw := List.mem_filter.mpr ⟨List.mem_of_getElem? (i := 190) (by decide +kernel), by decide +kernel⟩
theorem tw_163 : Cond.code yX5_allBelow cX5_allBelow 1 (some .int) ∈ tbw := List.mem_filter.mpr ⟨List.mem_of_getElem? (i := 191) (by decide +kernel), by decide +kernel⟩
theorem tw_164 : Cond.methodLink RX5 145 yX2_settle ∈ tbw := List.mem_filter.mpr ⟨List.mem_of_getElem? (i := 192) (by decide +kernel), by decide +kernel⟩
theorem tw_165 : Cond.instanceMethod yX2_settle ∈ tbw := List.mem_filter.mpr ⟨List.mem_of_getElem? (i := 193) (by decide +kernel), by decide +kernel⟩
theorem tw_166 : Cond.selects RX2 yX2_settle yX2_settle ∈ tbw := List.mem_filter.mpr ⟨List.mem_of_getElem? (i := 194) (by decide +kernel), by decide +kernel⟩
theorem tw_167 : Cond.code yX2_settle cX2_settle 6 none ∈ tbw := List.mem_filter.mpr ⟨List.mem_of_getElem? (i := 195) (by decide +kernel), by decide +kernel⟩
theorem tw_168 : Cond.methodLink RX2 46 yX2_merge ∈ tbw := List.mem_filter.mpr ⟨List.mem_of_getElem? (i := 196) (by decide +kernel), by decide +kernel⟩
theorem tw_170 : Cond.instanceMethod yX2_merge ∈ tbw := List.mem_filter.mpr ⟨List.mem_of_getElem? (i := 198) (by decide +kernel), by decide +kernel⟩
theorem tw_171 : Cond.code yX2_merge cX2_merge 7 none ∈ tbw := List.mem_filter.mpr ⟨List.mem_of_getElem? (i := 199) (by decide +kernel), by decide +kernel⟩
theorem tw_172 : Cond.methodLink RX2 62 Lib.Math.min.name ∈ tbw := List.mem_filter.mpr ⟨List.mem_of_getElem? (i := 200) (by decide +kernel), by decide +kernel⟩
theorem tw_173 : Cond.static Lib.Math.min.name ∈ tbw := List.mem_filter.mpr ⟨List.mem_of_getElem? (i := 201) (by decide +kernel), by decide +kernel⟩
theorem tw_174 : Cond.code Lib.Math.min.name Lib.Math.min.code 2 (some .int) ∈ tbw := List.mem_filter.mpr ⟨List.mem_of_getElem? (i := 202) (by decide +kernel), by decide +kernel⟩
theorem tw_175 : Cond.methodLink RX2 68 Lib.Math.max.name ∈ tbw := List.mem_filter.mpr ⟨List.mem_of_getElem? (i := 203) (by decide +kernel), by decide +kernel⟩
theorem tw_176 : Cond.static Lib.Math.max.name ∈ tbw := List.mem_filter.mpr ⟨List.mem_of_getElem? (i := 204) (by decide +kernel), by decide +kernel⟩
theorem tw_177 : Cond.code Lib.Math.max.name Lib.Math.max.code 2 (some .int) ∈ tbw := List.mem_filter.mpr ⟨List.mem_of_getElem? (i := 205) (by decide +kernel), by decide +kernel⟩
theorem tw_178 : Cond.methodLink RX2 50 yX2_mergeCongruent ∈ tbw := List.mem_filter.mpr ⟨List.mem_of_getElem? (i := 206) (by decide +kernel), by decide +kernel⟩
theorem tw_180 : Cond.instanceMethod yX2_mergeCongruent ∈ tbw := List.mem_filter.mpr ⟨List.mem_of_getElem? (i := 208) (by decide +kernel), by decide +kernel⟩
theorem tw_181 : Cond.code yX2_mergeCongruent cX2_mergeCongruent 5 (some .boolean) ∈ tbw := List.mem_filter.mpr ⟨List.mem_of_getElem? (i := 209) (by decide +kernel), by decide +kernel⟩
theorem tw_182 : Cond.methodLink RX2 30 yX2_joins ∈ tbw := List.mem_filter.mpr ⟨List.mem_of_getElem? (i := 210) (by decide +kernel), by decide +kernel⟩
theorem tw_183 : Cond.instanceMethod yX2_joins ∈ tbw := List.mem_filter.mpr ⟨List.mem_of_getElem? (i := 211) (by decide +kernel), by decide +kernel⟩
theorem tw_184 : Cond.selects RX2 yX2_joins yX2_joins ∈ tbw := List.mem_filter.mpr ⟨List.mem_of_getElem? (i := 212) (by decide +kernel), by decide +kernel⟩
theorem tw_185 : Cond.code yX2_joins cX2_joins 3 (some .boolean) ∈ tbw := List.mem_filter.mpr ⟨List.mem_of_getElem? (i := 213) (by decide +kernel), by decide +kernel⟩
theorem tw_186 : Cond.methodLink RX2 54 yX2_congruent ∈ tbw := List.mem_filter.mpr ⟨List.mem_of_getElem? (i := 214) (by decide +kernel), by decide +kernel⟩
theorem tw_188 : Cond.instanceMethod yX2_congruent ∈ tbw := List.mem_filter.mpr ⟨List.mem_of_getElem? (i := 216) (by decide +kernel), by decide +kernel⟩
theorem tw_189 : Cond.code yX2_congruent cX2_congruent 4 (some .boolean) ∈ tbw := List.mem_filter.mpr ⟨List.mem_of_getElem? (i := 217) (by decide +kernel), by decide +kernel⟩
theorem tw_190 : Cond.methodLink RX2 58 yX2_fits ∈ tbw := List.mem_filter.mpr ⟨List.mem_of_getElem? (i := 218) (by decide +kernel), by decide +kernel⟩
theorem tw_191 : Cond.instanceMethod yX2_fits ∈ tbw := List.mem_filter.mpr ⟨List.mem_of_getElem? (i := 219) (by decide +kernel), by decide +kernel⟩
theorem tw_192 : Cond.selects RX2 yX2_fits yX2_fits ∈ tbw := List.mem_filter.mpr ⟨List.mem_of_getElem? (i := 220) (by decide +kernel), by decide +kernel⟩
theorem tw_193 : Cond.code yX2_fits cX2_fits 6 (some .boolean) ∈ tbw := List.mem_filter.mpr ⟨List.mem_of_getElem? (i := 221) (by decide +kernel), by decide +kernel⟩
theorem tw_194 : Cond.methodLink RX2 23 yX2_sameArgument ∈ tbw := List.mem_filter.mpr ⟨List.mem_of_getElem? (i := 222) (by decide +kernel), by decide +kernel⟩
theorem tw_196 : Cond.instanceMethod yX2_sameArgument ∈ tbw := List.mem_filter.mpr ⟨List.mem_of_getElem? (i := 224) (by decide +kernel), by decide +kernel⟩
theorem tw_197 : Cond.code yX2_sameArgument cX2_sameArgument 3 (some .boolean) ∈ tbw := List.mem_filter.mpr ⟨List.mem_of_getElem? (i := 225) (by decide +kernel), by decide +kernel⟩
theorem tw_198 : Cond.methodLink RL 18 yX5_equate ∈ tbw := List.mem_filter.mpr ⟨List.mem_of_getElem? (i := 226) (by decide +kernel), by decide +kernel⟩
theorem tw_199 : Cond.instanceMethod yX5_equate ∈ tbw := List.mem_filter.mpr ⟨List.mem_of_getElem? (i := 227) (by decide +kernel), by decide +kernel⟩
theorem tw_200 : Cond.selects RX5 yX5_equate yX5_equate ∈ tbw := List.mem_filter.mpr ⟨List.mem_of_getElem? (i := 228) (by decide +kernel), by decide +kernel⟩
theorem tw_201 : Cond.code yX5_equate cX5_equate 4 (some .int) ∈ tbw := List.mem_filter.mpr ⟨List.mem_of_getElem? (i := 229) (by decide +kernel), by decide +kernel⟩
theorem tw_202 : Cond.methodLink RX5 70 yX5_areTerms ∈ tbw := List.mem_filter.mpr ⟨List.mem_of_getElem? (i := 230) (by decide +kernel), by decide +kernel⟩
theorem tw_204 : Cond.instanceMethod yX5_areTerms ∈ tbw := List.mem_filter.mpr ⟨List.mem_of_getElem? (i := 232) (by decide +kernel), by decide +kernel⟩
theorem tw_205 : Cond.code yX5_areTerms cX5_areTerms 3 (some .boolean) ∈ tbw := List.mem_filter.mpr ⟨List.mem_of_getElem? (i := 233) (by decide +kernel), by decide +kernel⟩
theorem tw_206 : Cond.methodLink RX5 74 yX1_isFull ∈ tbw := List.mem_filter.mpr ⟨List.mem_of_getElem? (i := 234) (by decide +kernel), by decide +kernel⟩
theorem tw_207 : Cond.instanceMethod yX1_isFull ∈ tbw := List.mem_filter.mpr ⟨List.mem_of_getElem? (i := 235) (by decide +kernel), by decide +kernel⟩
theorem tw_208 : Cond.selects RX1 yX1_isFull yX1_isFull ∈ tbw := List.mem_filter.mpr ⟨List.mem_of_getElem? (i := 236) (by decide +kernel), by decide +kernel⟩
theorem tw_209 : Cond.code yX1_isFull cX1_isFull 1 (some .boolean) ∈ tbw := List.mem_filter.mpr ⟨List.mem_of_getElem? (i := 237) (by decide +kernel), by decide +kernel⟩
theorem tw_210 : Cond.methodLink RX5 78 yX2_classCount ∈ tbw := List.mem_filter.mpr ⟨List.mem_of_getElem? (i := 238) (by decide +kernel), by decide +kernel⟩
theorem tw_211 : Cond.instanceMethod yX2_classCount ∈ tbw := List.mem_filter.mpr ⟨List.mem_of_getElem? (i := 239) (by decide +kernel), by decide +kernel⟩
theorem tw_212 : Cond.selects RX2 yX2_classCount yX2_classCount ∈ tbw := List.mem_filter.mpr ⟨List.mem_of_getElem? (i := 240) (by decide +kernel), by decide +kernel⟩
theorem tw_213 : Cond.code yX2_classCount cX2_classCount 4 (some .int) ∈ tbw := List.mem_filter.mpr ⟨List.mem_of_getElem? (i := 241) (by decide +kernel), by decide +kernel⟩
theorem tw_214 : Cond.methodLink RX5 82 yX1_add ∈ tbw := List.mem_filter.mpr ⟨List.mem_of_getElem? (i := 242) (by decide +kernel), by decide +kernel⟩
theorem tw_215 : Cond.instanceMethod yX1_add ∈ tbw := List.mem_filter.mpr ⟨List.mem_of_getElem? (i := 243) (by decide +kernel), by decide +kernel⟩
theorem tw_216 : Cond.selects RX1 yX1_add yX1_add ∈ tbw := List.mem_filter.mpr ⟨List.mem_of_getElem? (i := 244) (by decide +kernel), by decide +kernel⟩
theorem tw_217 : Cond.code yX1_add cX1_add 3 (some .int) ∈ tbw := List.mem_filter.mpr ⟨List.mem_of_getElem? (i := 245) (by decide +kernel), by decide +kernel⟩
theorem tw_218 : Cond.methodLink RL 23 yX5_differ ∈ tbw := List.mem_filter.mpr ⟨List.mem_of_getElem? (i := 246) (by decide +kernel), by decide +kernel⟩
theorem tw_219 : Cond.instanceMethod yX5_differ ∈ tbw := List.mem_filter.mpr ⟨List.mem_of_getElem? (i := 247) (by decide +kernel), by decide +kernel⟩
theorem tw_220 : Cond.selects RX5 yX5_differ yX5_differ ∈ tbw := List.mem_filter.mpr ⟨List.mem_of_getElem? (i := 248) (by decide +kernel), by decide +kernel⟩
theorem tw_221 : Cond.code yX5_differ cX5_differ 3 (some .int) ∈ tbw := List.mem_filter.mpr ⟨List.mem_of_getElem? (i := 249) (by decide +kernel), by decide +kernel⟩
theorem tw_222 : Cond.methodLink RL 27 yX5_open ∈ tbw := List.mem_filter.mpr ⟨List.mem_of_getElem? (i := 250) (by decide +kernel), by decide +kernel⟩
theorem tw_223 : Cond.instanceMethod yX5_open ∈ tbw := List.mem_filter.mpr ⟨List.mem_of_getElem? (i := 251) (by decide +kernel), by decide +kernel⟩
theorem tw_224 : Cond.selects RX5 yX5_open yX5_open ∈ tbw := List.mem_filter.mpr ⟨List.mem_of_getElem? (i := 252) (by decide +kernel), by decide +kernel⟩
theorem tw_225 : Cond.code yX5_open cX5_open 1 (some .int) ∈ tbw := List.mem_filter.mpr ⟨List.mem_of_getElem? (i := 253) (by decide +kernel), by decide +kernel⟩
theorem tw_226 : Cond.methodLink RX5 89 yX0_push ∈ tbw := List.mem_filter.mpr ⟨List.mem_of_getElem? (i := 254) (by decide +kernel), by decide +kernel⟩
theorem tw_227 : Cond.instanceMethod yX0_push ∈ tbw := List.mem_filter.mpr ⟨List.mem_of_getElem? (i := 255) (by decide +kernel), by decide +kernel⟩
theorem tw_228 : Cond.selects RX0 yX0_push yX0_push ∈ tbw := List.mem_filter.mpr ⟨List.mem_of_getElem? (i := 256) (by decide +kernel), by decide +kernel⟩
theorem tw_229 : Cond.code yX0_push cX0_push 4 none ∈ tbw := List.mem_filter.mpr ⟨List.mem_of_getElem? (i := 257) (by decide +kernel), by decide +kernel⟩
theorem tw_230 : Cond.methodLink RL 32 yX5_close ∈ tbw := List.mem_filter.mpr ⟨List.mem_of_getElem? (i := 258) (by decide +kernel), by decide +kernel⟩
theorem tw_231 : Cond.instanceMethod yX5_close ∈ tbw := List.mem_filter.mpr ⟨List.mem_of_getElem? (i := 259) (by decide +kernel), by decide +kernel⟩
theorem tw_232 : Cond.selects RX5 yX5_close yX5_close ∈ tbw := List.mem_filter.mpr ⟨List.mem_of_getElem? (i := 260) (by decide +kernel), by decide +kernel⟩
theorem tw_233 : Cond.code yX5_close cX5_close 1 (some .int) ∈ tbw := List.mem_filter.mpr ⟨List.mem_of_getElem? (i := 261) (by decide +kernel), by decide +kernel⟩
theorem tw_234 : Cond.methodLink RL 36 yX5_equal ∈ tbw := List.mem_filter.mpr ⟨List.mem_of_getElem? (i := 262) (by decide +kernel), by decide +kernel⟩
theorem tw_235 : Cond.instanceMethod yX5_equal ∈ tbw := List.mem_filter.mpr ⟨List.mem_of_getElem? (i := 263) (by decide +kernel), by decide +kernel⟩
theorem tw_236 : Cond.selects RX5 yX5_equal yX5_equal ∈ tbw := List.mem_filter.mpr ⟨List.mem_of_getElem? (i := 264) (by decide +kernel), by decide +kernel⟩
theorem tw_237 : Cond.code yX5_equal cX5_equal 3 (some .int) ∈ tbw := List.mem_filter.mpr ⟨List.mem_of_getElem? (i := 265) (by decide +kernel), by decide +kernel⟩
theorem tw_238 : Cond.methodLink RX5 103 yX2_joins ∈ tbw := List.mem_filter.mpr ⟨List.mem_of_getElem? (i := 266) (by decide +kernel), by decide +kernel⟩
theorem tw_239 : Cond.methodLink RL 40 yX5_apart ∈ tbw := List.mem_filter.mpr ⟨List.mem_of_getElem? (i := 267) (by decide +kernel), by decide +kernel⟩
theorem tw_240 : Cond.instanceMethod yX5_apart ∈ tbw := List.mem_filter.mpr ⟨List.mem_of_getElem? (i := 268) (by decide +kernel), by decide +kernel⟩
theorem tw_241 : Cond.selects RX5 yX5_apart yX5_apart ∈ tbw := List.mem_filter.mpr ⟨List.mem_of_getElem? (i := 269) (by decide +kernel), by decide +kernel⟩
theorem tw_242 : Cond.code yX5_apart cX5_apart 8 (some .int) ∈ tbw := List.mem_filter.mpr ⟨List.mem_of_getElem? (i := 270) (by decide +kernel), by decide +kernel⟩
theorem tw_243 : Cond.methodLink RL 44 yX5_consistent ∈ tbw := List.mem_filter.mpr ⟨List.mem_of_getElem? (i := 271) (by decide +kernel), by decide +kernel⟩
theorem tw_244 : Cond.instanceMethod yX5_consistent ∈ tbw := List.mem_filter.mpr ⟨List.mem_of_getElem? (i := 272) (by decide +kernel), by decide +kernel⟩
theorem tw_245 : Cond.selects RX5 yX5_consistent yX5_consistent ∈ tbw := List.mem_filter.mpr ⟨List.mem_of_getElem? (i := 273) (by decide +kernel), by decide +kernel⟩
theorem tw_246 : Cond.code yX5_consistent cX5_consistent 2 (some .boolean) ∈ tbw := List.mem_filter.mpr ⟨List.mem_of_getElem? (i := 274) (by decide +kernel), by decide +kernel⟩
theorem tw_247 : Cond.methodLink RL 49 yX5_leader ∈ tbw := List.mem_filter.mpr ⟨List.mem_of_getElem? (i := 275) (by decide +kernel), by decide +kernel⟩
theorem tw_248 : Cond.instanceMethod yX5_leader ∈ tbw := List.mem_filter.mpr ⟨List.mem_of_getElem? (i := 276) (by decide +kernel), by decide +kernel⟩
theorem tw_249 : Cond.selects RX5 yX5_leader yX5_leader ∈ tbw := List.mem_filter.mpr ⟨List.mem_of_getElem? (i := 277) (by decide +kernel), by decide +kernel⟩
theorem tw_250 : Cond.code yX5_leader cX5_leader 2 (some .int) ∈ tbw := List.mem_filter.mpr ⟨List.mem_of_getElem? (i := 278) (by decide +kernel), by decide +kernel⟩
theorem tw_251 : Cond.methodLink RL 54 yX5_members ∈ tbw := List.mem_filter.mpr ⟨List.mem_of_getElem? (i := 279) (by decide +kernel), by decide +kernel⟩
theorem tw_252 : Cond.instanceMethod yX5_members ∈ tbw := List.mem_filter.mpr ⟨List.mem_of_getElem? (i := 280) (by decide +kernel), by decide +kernel⟩
theorem tw_253 : Cond.selects RX5 yX5_members yX5_members ∈ tbw := List.mem_filter.mpr ⟨List.mem_of_getElem? (i := 281) (by decide +kernel), by decide +kernel⟩
theorem tw_254 : Cond.code yX5_members cX5_members 4 (some .int) ∈ tbw := List.mem_filter.mpr ⟨List.mem_of_getElem? (i := 282) (by decide +kernel), by decide +kernel⟩
theorem tw_255 : Cond.methodLink RL 58 yX5_classes ∈ tbw := List.mem_filter.mpr ⟨List.mem_of_getElem? (i := 283) (by decide +kernel), by decide +kernel⟩
theorem tw_256 : Cond.instanceMethod yX5_classes ∈ tbw := List.mem_filter.mpr ⟨List.mem_of_getElem? (i := 284) (by decide +kernel), by decide +kernel⟩
theorem tw_257 : Cond.selects RX5 yX5_classes yX5_classes ∈ tbw := List.mem_filter.mpr ⟨List.mem_of_getElem? (i := 285) (by decide +kernel), by decide +kernel⟩
theorem tw_258 : Cond.code yX5_classes cX5_classes 1 (some .int) ∈ tbw := List.mem_filter.mpr ⟨List.mem_of_getElem? (i := 286) (by decide +kernel), by decide +kernel⟩
theorem tw_259 : Cond.methodLink RL 62 yX5_find ∈ tbw := List.mem_filter.mpr ⟨List.mem_of_getElem? (i := 287) (by decide +kernel), by decide +kernel⟩
theorem tw_260 : Cond.instanceMethod yX5_find ∈ tbw := List.mem_filter.mpr ⟨List.mem_of_getElem? (i := 288) (by decide +kernel), by decide +kernel⟩
theorem tw_261 : Cond.selects RX5 yX5_find yX5_find ∈ tbw := List.mem_filter.mpr ⟨List.mem_of_getElem? (i := 289) (by decide +kernel), by decide +kernel⟩
theorem tw_262 : Cond.code yX5_find cX5_find 5 (some .int) ∈ tbw := List.mem_filter.mpr ⟨List.mem_of_getElem? (i := 290) (by decide +kernel), by decide +kernel⟩
theorem tw_263 : Cond.methodLink RX5 119 yX2_fits ∈ tbw := List.mem_filter.mpr ⟨List.mem_of_getElem? (i := 291) (by decide +kernel), by decide +kernel⟩
theorem tw_264 : Cond.methodLink RL 66 yX5_since ∈ tbw := List.mem_filter.mpr ⟨List.mem_of_getElem? (i := 292) (by decide +kernel), by decide +kernel⟩
theorem tw_265 : Cond.instanceMethod yX5_since ∈ tbw := List.mem_filter.mpr ⟨List.mem_of_getElem? (i := 293) (by decide +kernel), by decide +kernel⟩
theorem tw_266 : Cond.selects RX5 yX5_since yX5_since ∈ tbw := List.mem_filter.mpr ⟨List.mem_of_getElem? (i := 294) (by decide +kernel), by decide +kernel⟩
theorem tw_267 : Cond.code yX5_since cX5_since 4 (some .int) ∈ tbw := List.mem_filter.mpr ⟨List.mem_of_getElem? (i := 295) (by decide +kernel), by decide +kernel⟩
theorem tw_268 : Cond.methodLink RX5 126 yX5_followsFrom ∈ tbw := List.mem_filter.mpr ⟨List.mem_of_getElem? (i := 296) (by decide +kernel), by decide +kernel⟩
theorem tw_270 : Cond.instanceMethod yX5_followsFrom ∈ tbw := List.mem_filter.mpr ⟨List.mem_of_getElem? (i := 298) (by decide +kernel), by decide +kernel⟩
theorem tw_271 : Cond.code yX5_followsFrom cX5_followsFrom 4 (some .boolean) ∈ tbw := List.mem_filter.mpr ⟨List.mem_of_getElem? (i := 299) (by decide +kernel), by decide +kernel⟩
theorem tw_272 : Cond.methodLink RL 70 yX5_explanation ∈ tbw := List.mem_filter.mpr ⟨List.mem_of_getElem? (i := 300) (by decide +kernel), by decide +kernel⟩
theorem tw_273 : Cond.instanceMethod yX5_explanation ∈ tbw := List.mem_filter.mpr ⟨List.mem_of_getElem? (i := 301) (by decide +kernel), by decide +kernel⟩
theorem tw_274 : Cond.selects RX5 yX5_explanation yX5_explanation ∈ tbw := List.mem_filter.mpr ⟨List.mem_of_getElem? (i := 302) (by decide +kernel), by decide +kernel⟩
theorem tw_275 : Cond.code yX5_explanation cX5_explanation 5 (some .int) ∈ tbw := List.mem_filter.mpr ⟨List.mem_of_getElem? (i := 303) (by decide +kernel), by decide +kernel⟩
theorem tw_276 : Cond.methodLink RL 74 yX5_needed ∈ tbw := List.mem_filter.mpr ⟨List.mem_of_getElem? (i := 304) (by decide +kernel), by decide +kernel⟩
theorem tw_277 : Cond.instanceMethod yX5_needed ∈ tbw := List.mem_filter.mpr ⟨List.mem_of_getElem? (i := 305) (by decide +kernel), by decide +kernel⟩
theorem tw_278 : Cond.selects RX5 yX5_needed yX5_needed ∈ tbw := List.mem_filter.mpr ⟨List.mem_of_getElem? (i := 306) (by decide +kernel), by decide +kernel⟩
theorem tw_279 : Cond.code yX5_needed cX5_needed 6 (some .int) ∈ tbw := List.mem_filter.mpr ⟨List.mem_of_getElem? (i := 307) (by decide +kernel), by decide +kernel⟩
theorem tw_280 : Cond.methodLink RL 78 yX5_weight ∈ tbw := List.mem_filter.mpr ⟨List.mem_of_getElem? (i := 308) (by decide +kernel), by decide +kernel⟩
theorem tw_281 : Cond.instanceMethod yX5_weight ∈ tbw := List.mem_filter.mpr ⟨List.mem_of_getElem? (i := 309) (by decide +kernel), by decide +kernel⟩
theorem tw_282 : Cond.selects RX5 yX5_weight yX5_weight ∈ tbw := List.mem_filter.mpr ⟨List.mem_of_getElem? (i := 310) (by decide +kernel), by decide +kernel⟩
theorem tw_283 : Cond.code yX5_weight cX5_weight 2 (some .long) ∈ tbw := List.mem_filter.mpr ⟨List.mem_of_getElem? (i := 311) (by decide +kernel), by decide +kernel⟩
theorem tw_284 : Cond.methodLink RX5 129 yX4_weigh ∈ tbw := List.mem_filter.mpr ⟨List.mem_of_getElem? (i := 312) (by decide +kernel), by decide +kernel⟩
theorem tw_285 : Cond.instanceMethod yX4_weigh ∈ tbw := List.mem_filter.mpr ⟨List.mem_of_getElem? (i := 313) (by decide +kernel), by decide +kernel⟩
theorem tw_286 : Cond.selects RX4 yX4_weigh yX4_weigh ∈ tbw := List.mem_filter.mpr ⟨List.mem_of_getElem? (i := 314) (by decide +kernel), by decide +kernel⟩
theorem tw_287 : Cond.code yX4_weigh cX4_weigh 5 none ∈ tbw := List.mem_filter.mpr ⟨List.mem_of_getElem? (i := 315) (by decide +kernel), by decide +kernel⟩
theorem tw_288 : Cond.constantLong RX4 15 1152921504606846976 ∈ tbw := List.mem_filter.mpr ⟨List.mem_of_getElem? (i := 316) (by decide +kernel), by decide +kernel⟩
theorem tw_289 : Cond.methodLink RX4 17 yAr_fill ∈ tbw := List.mem_filter.mpr ⟨List.mem_of_getElem? (i := 317) (by decide +kernel), by decide +kernel⟩
theorem tw_290 : Cond.static yAr_fill ∈ tbw := List.mem_filter.mpr ⟨List.mem_of_getElem? (i := 318) (by decide +kernel), by decide +kernel⟩
theorem tw_291 : Cond.code yAr_fill cAr_fill 5 none ∈ tbw := List.mem_filter.mpr ⟨List.mem_of_getElem? (i := 319) (by decide +kernel), by decide +kernel⟩
theorem tw_292 : Cond.methodLink RX4 29 yX4_lower ∈ tbw := List.mem_filter.mpr ⟨List.mem_of_getElem? (i := 320) (by decide +kernel), by decide +kernel⟩
theorem tw_294 : Cond.instanceMethod yX4_lower ∈ tbw := List.mem_filter.mpr ⟨List.mem_of_getElem? (i := 322) (by decide +kernel), by decide +kernel⟩
theorem tw_295 : Cond.code yX4_lower cX4_lower 7 (some .boolean) ∈ tbw := List.mem_filter.mpr ⟨List.mem_of_getElem? (i := 323) (by decide +kernel), by decide +kernel⟩
theorem tw_296 : Cond.methodLink RX4 33 yX4_costOf ∈ tbw := List.mem_filter.mpr ⟨List.mem_of_getElem? (i := 324) (by decide +kernel), by decide +kernel⟩
theorem tw_298 : Cond.instanceMethod yX4_costOf ∈ tbw := List.mem_filter.mpr ⟨List.mem_of_getElem? (i := 326) (by decide +kernel), by decide +kernel⟩
theorem tw_299 : Cond.code yX4_costOf cX4_costOf 4 (some .long) ∈ tbw := List.mem_filter.mpr ⟨List.mem_of_getElem? (i := 327) (by decide +kernel), by decide +kernel⟩
theorem tw_300 : Cond.methodLink RX4 46 yX4_ofArgument ∈ tbw := List.mem_filter.mpr ⟨List.mem_of_getElem? (i := 328) (by decide +kernel), by decide +kernel⟩
theorem tw_302 : Cond.instanceMethod yX4_ofArgument ∈ tbw := List.mem_filter.mpr ⟨List.mem_of_getElem? (i := 330) (by decide +kernel), by decide +kernel⟩
theorem tw_303 : Cond.code yX4_ofArgument cX4_ofArgument 3 (some .long) ∈ tbw := List.mem_filter.mpr ⟨List.mem_of_getElem? (i := 331) (by decide +kernel), by decide +kernel⟩
theorem tw_304 : Cond.methodLink RX4 53 yX4_ofTerm ∈ tbw := List.mem_filter.mpr ⟨List.mem_of_getElem? (i := 332) (by decide +kernel), by decide +kernel⟩
theorem tw_305 : Cond.instanceMethod yX4_ofTerm ∈ tbw := List.mem_filter.mpr ⟨List.mem_of_getElem? (i := 333) (by decide +kernel), by decide +kernel⟩
theorem tw_306 : Cond.selects RX4 yX4_ofTerm yX4_ofTerm ∈ tbw := List.mem_filter.mpr ⟨List.mem_of_getElem? (i := 334) (by decide +kernel), by decide +kernel⟩
theorem tw_307 : Cond.code yX4_ofTerm cX4_ofTerm 3 (some .long) ∈ tbw := List.mem_filter.mpr ⟨List.mem_of_getElem? (i := 335) (by decide +kernel), by decide +kernel⟩
theorem tw_308 : Cond.methodLink RX5 133 yX4_ofTerm ∈ tbw := List.mem_filter.mpr ⟨List.mem_of_getElem? (i := 336) (by decide +kernel), by decide +kernel⟩
theorem tw_309 : Cond.methodLink RL 83 yX5_best ∈ tbw := List.mem_filter.mpr ⟨List.mem_of_getElem? (i := 337) (by decide +kernel), by decide +kernel⟩
theorem tw_310 : Cond.instanceMethod yX5_best ∈ tbw := List.mem_filter.mpr ⟨List.mem_of_getElem? (i := 338) (by decide +kernel), by decide +kernel⟩
theorem tw_311 : Cond.selects RX5 yX5_best yX5_best ∈ tbw := List.mem_filter.mpr ⟨List.mem_of_getElem? (i := 339) (by decide +kernel), by decide +kernel⟩
theorem tw_312 : Cond.code yX5_best cX5_best 2 (some .int) ∈ tbw := List.mem_filter.mpr ⟨List.mem_of_getElem? (i := 340) (by decide +kernel), by decide +kernel⟩
theorem tw_313 : Cond.methodLink RX5 137 yX4_lightest ∈ tbw := List.mem_filter.mpr ⟨List.mem_of_getElem? (i := 341) (by decide +kernel), by decide +kernel⟩
theorem tw_314 : Cond.instanceMethod yX4_lightest ∈ tbw := List.mem_filter.mpr ⟨List.mem_of_getElem? (i := 342) (by decide +kernel), by decide +kernel⟩
theorem tw_315 : Cond.selects RX4 yX4_lightest yX4_lightest ∈ tbw := List.mem_filter.mpr ⟨List.mem_of_getElem? (i := 343) (by decide +kernel), by decide +kernel⟩
theorem tw_316 : Cond.code yX4_lightest cX4_lightest 5 (some .int) ∈ tbw := List.mem_filter.mpr ⟨List.mem_of_getElem? (i := 344) (by decide +kernel), by decide +kernel⟩
theorem tw_317 : Cond.methodLink RX4 56 yX2_joins ∈ tbw := List.mem_filter.mpr ⟨List.mem_of_getElem? (i := 345) (by decide +kernel), by decide +kernel⟩
theorem tw_318 : Cond.methodLink RL 87 yX5_written ∈ tbw := List.mem_filter.mpr ⟨List.mem_of_getElem? (i := 346) (by decide +kernel), by decide +kernel⟩
theorem tw_319 : Cond.instanceMethod yX5_written ∈ tbw := List.mem_filter.mpr ⟨List.mem_of_getElem? (i := 347) (by decide +kernel), by decide +kernel⟩
theorem tw_320 : Cond.selects RX5 yX5_written yX5_written ∈ tbw := List.mem_filter.mpr ⟨List.mem_of_getElem? (i := 348) (by decide +kernel), by decide +kernel⟩
theorem tw_321 : Cond.code yX5_written cX5_written 3 (some .int) ∈ tbw := List.mem_filter.mpr ⟨List.mem_of_getElem? (i := 349) (by decide +kernel), by decide +kernel⟩
theorem tw_322 : Cond.methodLink RX5 141 yX4_symbolAt ∈ tbw := List.mem_filter.mpr ⟨List.mem_of_getElem? (i := 350) (by decide +kernel), by decide +kernel⟩
theorem tw_323 : Cond.instanceMethod yX4_symbolAt ∈ tbw := List.mem_filter.mpr ⟨List.mem_of_getElem? (i := 351) (by decide +kernel), by decide +kernel⟩
theorem tw_324 : Cond.selects RX4 yX4_symbolAt yX4_symbolAt ∈ tbw := List.mem_filter.mpr ⟨List.mem_of_getElem? (i := 352) (by decide +kernel), by decide +kernel⟩
theorem tw_325 : Cond.code yX4_symbolAt cX4_symbolAt 12 (some .int) ∈ tbw := List.mem_filter.mpr ⟨List.mem_of_getElem? (i := 353) (by decide +kernel), by decide +kernel⟩
theorem tw_326 : Cond.methodLink RX4 60 yX4_lightest ∈ tbw := List.mem_filter.mpr ⟨List.mem_of_getElem? (i := 354) (by decide +kernel), by decide +kernel⟩
theorem tw_327 : Cond.methodLink RL 91 yX5_terms ∈ tbw := List.mem_filter.mpr ⟨List.mem_of_getElem? (i := 355) (by decide +kernel), by decide +kernel⟩
theorem tw_328 : Cond.instanceMethod yX5_terms ∈ tbw := List.mem_filter.mpr ⟨List.mem_of_getElem? (i := 356) (by decide +kernel), by decide +kernel⟩
theorem tw_329 : Cond.selects RX5 yX5_terms yX5_terms ∈ tbw := List.mem_filter.mpr ⟨List.mem_of_getElem? (i := 357) (by decide +kernel), by decide +kernel⟩
theorem tw_330 : Cond.code yX5_terms cX5_terms 1 (some .int) ∈ tbw := List.mem_filter.mpr ⟨List.mem_of_getElem? (i := 358) (by decide +kernel), by decide +kernel⟩
theorem tw_331 : Cond.methodLink RL 95 yX5_equations ∈ tbw := List.mem_filter.mpr ⟨List.mem_of_getElem? (i := 359) (by decide +kernel), by decide +kernel⟩
theorem tw_332 : Cond.instanceMethod yX5_equations ∈ tbw := List.mem_filter.mpr ⟨List.mem_of_getElem? (i := 360) (by decide +kernel), by decide +kernel⟩
theorem tw_333 : Cond.selects RX5 yX5_equations yX5_equations ∈ tbw := List.mem_filter.mpr ⟨List.mem_of_getElem? (i := 361) (by decide +kernel), by decide +kernel⟩
theorem tw_334 : Cond.code yX5_equations cX5_equations 1 (some .int) ∈ tbw := List.mem_filter.mpr ⟨List.mem_of_getElem? (i := 362) (by decide +kernel), by decide +kernel⟩
theorem tw_335 : Cond.classLink RL 10 RX6 ∈ tbw := List.mem_filter.mpr ⟨List.mem_of_getElem? (i := 363) (by decide +kernel), by decide +kernel⟩
theorem tw_336 : Cond.instantiable RX6 16 ∈ tbw := List.mem_filter.mpr ⟨List.mem_of_getElem? (i := 364) (by decide +kernel), by decide +kernel⟩
theorem tw_337 : Cond.methodLink RL 12 yX6_init ∈ tbw := List.mem_filter.mpr ⟨List.mem_of_getElem? (i := 365) (by decide +kernel), by decide +kernel⟩
theorem tw_338 : Cond.instanceMethod yX6_init ∈ tbw := List.mem_filter.mpr ⟨List.mem_of_getElem? (i := 366) (by decide +kernel), by decide +kernel⟩
theorem tw_339 : Cond.code yX6_init cX6_init 1 none ∈ tbw := List.mem_filter.mpr ⟨List.mem_of_getElem? (i := 367) (by decide +kernel), by decide +kernel⟩
theorem tw_340 : Cond.methodLink RX6 1 objectInit ∈ tbw := List.mem_filter.mpr ⟨List.mem_of_getElem? (i := 368) (by decide +kernel), by decide +kernel⟩
theorem tw_341 : Cond.fieldLink RX6 47 "CongruenceLedgerModel" "count" "I" ∈ tbw := List.mem_filter.mpr ⟨List.mem_of_getElem? (i := 369) (by decide +kernel), by decide +kernel⟩
theorem tw_342 : Cond.fieldLink RX6 7 "CongruenceLedgerModel" "symbols" "[I" ∈ tbw := List.mem_filter.mpr ⟨List.mem_of_getElem? (i := 370) (by decide +kernel), by decide +kernel⟩
theorem tw_343 : Cond.fieldLink RX6 13 "CongruenceLedgerModel" "firsts" "[I" ∈ tbw := List.mem_filter.mpr ⟨List.mem_of_getElem? (i := 371) (by decide +kernel), by decide +kernel⟩
theorem tw_344 : Cond.fieldLink RX6 16 "CongruenceLedgerModel" "seconds" "[I" ∈ tbw := List.mem_filter.mpr ⟨List.mem_of_getElem? (i := 372) (by decide +kernel), by decide +kernel⟩
theorem tw_345 : Cond.fieldLink RX6 65 "CongruenceLedgerModel" "stated" "I" ∈ tbw := List.mem_filter.mpr ⟨List.mem_of_getElem? (i := 373) (by decide +kernel), by decide +kernel⟩
theorem tw_346 : Cond.fieldLink RX6 19 "CongruenceLedgerModel" "lefts" "[I" ∈ tbw := List.mem_filter.mpr ⟨List.mem_of_getElem? (i := 374) (by decide +kernel), by decide +kernel⟩
theorem tw_347 : Cond.fieldLink RX6 22 "CongruenceLedgerModel" "rights" "[I" ∈ tbw := List.mem_filter.mpr ⟨List.mem_of_getElem? (i := 375) (by decide +kernel), by decide +kernel⟩
theorem tw_348 : Cond.fieldLink RX6 92 "CongruenceLedgerModel" "denied" "I" ∈ tbw := List.mem_filter.mpr ⟨List.mem_of_getElem? (i := 376) (by decide +kernel), by decide +kernel⟩
theorem tw_349 : Cond.fieldLink RX6 25 "CongruenceLedgerModel" "ones" "[I" ∈ tbw := List.mem_filter.mpr ⟨List.mem_of_getElem? (i := 377) (by decide +kernel), by decide +kernel⟩
theorem tw_350 : Cond.fieldLink RX6 28 "CongruenceLedgerModel" "others" "[I" ∈ tbw := List.mem_filter.mpr ⟨List.mem_of_getElem? (i := 378) (by decide +kernel), by decide +kernel⟩
theorem tw_351 : Cond.fieldLink RX6 95 "CongruenceLedgerModel" "deep" "I" ∈ tbw := List.mem_filter.mpr ⟨List.mem_of_getElem? (i := 379) (by decide +kernel), by decide +kernel⟩
theorem tw_352 : Cond.fieldLink RX6 31 "CongruenceLedgerModel" "countThen" "[I" ∈ tbw := List.mem_filter.mpr ⟨List.mem_of_getElem? (i := 380) (by decide +kernel), by decide +kernel⟩
theorem tw_353 : Cond.fieldLink RX6 34 "CongruenceLedgerModel" "statedThen" "[I" ∈ tbw := List.mem_filter.mpr ⟨List.mem_of_getElem? (i := 381) (by decide +kernel), by decide +kernel⟩
theorem tw_354 : Cond.fieldLink RX6 37 "CongruenceLedgerModel" "deniedThen" "[I" ∈ tbw := List.mem_filter.mpr ⟨List.mem_of_getElem? (i := 382) (by decide +kernel), by decide +kernel⟩
theorem tw_355 : Cond.fieldLink RX6 40 "CongruenceLedgerModel" "label" "[I" ∈ tbw := List.mem_filter.mpr ⟨List.mem_of_getElem? (i := 383) (by decide +kernel), by decide +kernel⟩
theorem tw_356 : Cond.fieldLink RX6 43 "CongruenceLedgerModel" "least" "[J" ∈ tbw := List.mem_filter.mpr ⟨List.mem_of_getElem? (i := 384) (by decide +kernel), by decide +kernel⟩
theorem tw_357 : Cond.lays RX6 "CongruenceLedgerModel" "count" "I" ∈ tbw := List.mem_filter.mpr ⟨List.mem_of_getElem? (i := 385) (by decide +kernel), by decide +kernel⟩
theorem tw_359 : Cond.laysFinal RX6 "CongruenceLedgerModel" "symbols" "[I" ∈ tbw := List.mem_filter.mpr ⟨List.mem_of_getElem? (i := 387) (by decide +kernel), by decide +kernel⟩
theorem tw_361 : Cond.laysFinal RX6 "CongruenceLedgerModel" "firsts" "[I" ∈ tbw := List.mem_filter.mpr ⟨List.mem_of_getElem? (i := 389) (by decide +kernel), by decide +kernel⟩
theorem tw_363 : Cond.laysFinal RX6 "CongruenceLedgerModel" "seconds" "[I" ∈ tbw := List.mem_filter.mpr ⟨List.mem_of_getElem? (i := 391) (by decide +kernel), by decide +kernel⟩
theorem tw_365 : Cond.lays RX6 "CongruenceLedgerModel" "stated" "I" ∈ tbw := List.mem_filter.mpr ⟨List.mem_of_getElem? (i := 393) (by decide +kernel), by decide +kernel⟩
theorem tw_367 : Cond.laysFinal RX6 "CongruenceLedgerModel" "lefts" "[I" ∈ tbw := List.mem_filter.mpr ⟨List.mem_of_getElem? (i := 395) (by decide +kernel), by decide +kernel⟩
theorem tw_369 : Cond.laysFinal RX6 "CongruenceLedgerModel" "rights" "[I" ∈ tbw := List.mem_filter.mpr ⟨List.mem_of_getElem? (i := 397) (by decide +kernel), by decide +kernel⟩
theorem tw_371 : Cond.lays RX6 "CongruenceLedgerModel" "denied" "I" ∈ tbw := List.mem_filter.mpr ⟨List.mem_of_getElem? (i := 399) (by decide +kernel), by decide +kernel⟩
theorem tw_373 : Cond.laysFinal RX6 "CongruenceLedgerModel" "ones" "[I" ∈ tbw := List.mem_filter.mpr ⟨List.mem_of_getElem? (i := 401) (by decide +kernel), by decide +kernel⟩
theorem tw_375 : Cond.laysFinal RX6 "CongruenceLedgerModel" "others" "[I" ∈ tbw := List.mem_filter.mpr ⟨List.mem_of_getElem? (i := 403) (by decide +kernel), by decide +kernel⟩
theorem tw_377 : Cond.lays RX6 "CongruenceLedgerModel" "deep" "I" ∈ tbw := List.mem_filter.mpr ⟨List.mem_of_getElem? (i := 405) (by decide +kernel), by decide +kernel⟩
theorem tw_379 : Cond.laysFinal RX6 "CongruenceLedgerModel" "countThen" "[I" ∈ tbw := List.mem_filter.mpr ⟨List.mem_of_getElem? (i := 407) (by decide +kernel), by decide +kernel⟩
theorem tw_381 : Cond.laysFinal RX6 "CongruenceLedgerModel" "statedThen" "[I" ∈ tbw := List.mem_filter.mpr ⟨List.mem_of_getElem? (i := 409) (by decide +kernel), by decide +kernel⟩
theorem tw_383 : Cond.laysFinal RX6 "CongruenceLedgerModel" "deniedThen" "[I" ∈ tbw := List.mem_filter.mpr ⟨List.mem_of_getElem? (i := 411) (by decide +kernel), by decide +kernel⟩
theorem tw_385 : Cond.laysFinal RX6 "CongruenceLedgerModel" "label" "[I" ∈ tbw := List.mem_filter.mpr ⟨List.mem_of_getElem? (i := 413) (by decide +kernel), by decide +kernel⟩
theorem tw_387 : Cond.laysFinal RX6 "CongruenceLedgerModel" "least" "[J" ∈ tbw := List.mem_filter.mpr ⟨List.mem_of_getElem? (i := 415) (by decide +kernel), by decide +kernel⟩
theorem tw_390 : Cond.methodLink RL 17 yX6_make ∈ tbw := List.mem_filter.mpr ⟨List.mem_of_getElem? (i := 418) (by decide +kernel), by decide +kernel⟩
theorem tw_391 : Cond.instanceMethod yX6_make ∈ tbw := List.mem_filter.mpr ⟨List.mem_of_getElem? (i := 419) (by decide +kernel), by decide +kernel⟩
theorem tw_392 : Cond.selects RX6 yX6_make yX6_make ∈ tbw := List.mem_filter.mpr ⟨List.mem_of_getElem? (i := 420) (by decide +kernel), by decide +kernel⟩
theorem tw_393 : Cond.code yX6_make cX6_make 5 (some .int) ∈ tbw := List.mem_filter.mpr ⟨List.mem_of_getElem? (i := 421) (by decide +kernel), by decide +kernel⟩
theorem tw_394 : Cond.methodLink RX6 81 yX6_wrongParts ∈ tbw := List.mem_filter.mpr ⟨List.mem_of_getElem? (i := 422) (by decide +kernel), by decide +kernel⟩
theorem tw_396 : Cond.instanceMethod yX6_wrongParts ∈ tbw := List.mem_filter.mpr ⟨List.mem_of_getElem? (i := 424) (by decide +kernel), by decide +kernel⟩
theorem tw_397 : Cond.code yX6_wrongParts cX6_wrongParts 5 (some .boolean) ∈ tbw := List.mem_filter.mpr ⟨List.mem_of_getElem? (i := 425) (by decide +kernel), by decide +kernel⟩
theorem tw_398 : Cond.methodLink RX6 77 yX6_isTerm ∈ tbw := List.mem_filter.mpr ⟨List.mem_of_getElem? (i := 426) (by decide +kernel), by decide +kernel⟩
theorem tw_400 : Cond.instanceMethod yX6_isTerm ∈ tbw := List.mem_filter.mpr ⟨List.mem_of_getElem? (i := 428) (by decide +kernel), by decide +kernel⟩
theorem tw_401 : Cond.code yX6_isTerm cX6_isTerm 2 (some .boolean) ∈ tbw := List.mem_filter.mpr ⟨List.mem_of_getElem? (i := 429) (by decide +kernel), by decide +kernel⟩
theorem tw_402 : Cond.methodLink RL 22 yX6_equate ∈ tbw := List.mem_filter.mpr ⟨List.mem_of_getElem? (i := 430) (by decide +kernel), by decide +kernel⟩
theorem tw_403 : Cond.instanceMethod yX6_equate ∈ tbw := List.mem_filter.mpr ⟨List.mem_of_getElem? (i := 431) (by decide +kernel), by decide +kernel⟩
theorem tw_404 : Cond.selects RX6 yX6_equate yX6_equate ∈ tbw := List.mem_filter.mpr ⟨List.mem_of_getElem? (i := 432) (by decide +kernel), by decide +kernel⟩
theorem tw_405 : Cond.code yX6_equate cX6_equate 4 (some .int) ∈ tbw := List.mem_filter.mpr ⟨List.mem_of_getElem? (i := 433) (by decide +kernel), by decide +kernel⟩
theorem tw_406 : Cond.methodLink RX6 85 yX6_workAll ∈ tbw := List.mem_filter.mpr ⟨List.mem_of_getElem? (i := 434) (by decide +kernel), by decide +kernel⟩
theorem tw_408 : Cond.instanceMethod yX6_workAll ∈ tbw := List.mem_filter.mpr ⟨List.mem_of_getElem? (i := 436) (by decide +kernel), by decide +kernel⟩
theorem tw_409 : Cond.code yX6_workAll cX6_workAll 1 none ∈ tbw := List.mem_filter.mpr ⟨List.mem_of_getElem? (i := 437) (by decide +kernel), by decide +kernel⟩
theorem tw_410 : Cond.methodLink RX6 71 yX6_work ∈ tbw := List.mem_filter.mpr ⟨List.mem_of_getElem? (i := 438) (by decide +kernel), by decide +kernel⟩
theorem tw_412 : Cond.instanceMethod yX6_work ∈ tbw := List.mem_filter.mpr ⟨List.mem_of_getElem? (i := 440) (by decide +kernel), by decide +kernel⟩
theorem tw_413 : Cond.code yX6_work cX6_work 4 none ∈ tbw := List.mem_filter.mpr ⟨List.mem_of_getElem? (i := 441) (by decide +kernel), by decide +kernel⟩
theorem tw_414 : Cond.methodLink RX6 62 yX6_alone ∈ tbw := List.mem_filter.mpr ⟨List.mem_of_getElem? (i := 442) (by decide +kernel), by decide +kernel⟩
theorem tw_416 : Cond.instanceMethod yX6_alone ∈ tbw := List.mem_filter.mpr ⟨List.mem_of_getElem? (i := 444) (by decide +kernel), by decide +kernel⟩
theorem tw_417 : Cond.code yX6_alone cX6_alone 2 none ∈ tbw := List.mem_filter.mpr ⟨List.mem_of_getElem? (i := 445) (by decide +kernel), by decide +kernel⟩
theorem tw_418 : Cond.methodLink RX6 58 yX6_join ∈ tbw := List.mem_filter.mpr ⟨List.mem_of_getElem? (i := 446) (by decide +kernel), by decide +kernel⟩
theorem tw_420 : Cond.instanceMethod yX6_join ∈ tbw := List.mem_filter.mpr ⟨List.mem_of_getElem? (i := 448) (by decide +kernel), by decide +kernel⟩
theorem tw_421 : Cond.code yX6_join cX6_join 6 none ∈ tbw := List.mem_filter.mpr ⟨List.mem_of_getElem? (i := 449) (by decide +kernel), by decide +kernel⟩
theorem tw_422 : Cond.methodLink RX6 68 yX6_settle ∈ tbw := List.mem_filter.mpr ⟨List.mem_of_getElem? (i := 450) (by decide +kernel), by decide +kernel⟩
theorem tw_424 : Cond.instanceMethod yX6_settle ∈ tbw := List.mem_filter.mpr ⟨List.mem_of_getElem? (i := 452) (by decide +kernel), by decide +kernel⟩
theorem tw_425 : Cond.code yX6_settle cX6_settle 5 none ∈ tbw := List.mem_filter.mpr ⟨List.mem_of_getElem? (i := 453) (by decide +kernel), by decide +kernel⟩
theorem tw_426 : Cond.methodLink RX6 55 yX6_alike ∈ tbw := List.mem_filter.mpr ⟨List.mem_of_getElem? (i := 454) (by decide +kernel), by decide +kernel⟩
theorem tw_428 : Cond.instanceMethod yX6_alike ∈ tbw := List.mem_filter.mpr ⟨List.mem_of_getElem? (i := 456) (by decide +kernel), by decide +kernel⟩
theorem tw_429 : Cond.code yX6_alike cX6_alike 3 (some .boolean) ∈ tbw := List.mem_filter.mpr ⟨List.mem_of_getElem? (i := 457) (by decide +kernel), by decide +kernel⟩
theorem tw_430 : Cond.methodLink RX6 51 yX6_sameArgument ∈ tbw := List.mem_filter.mpr ⟨List.mem_of_getElem? (i := 458) (by decide +kernel), by decide +kernel⟩
theorem tw_432 : Cond.instanceMethod yX6_sameArgument ∈ tbw := List.mem_filter.mpr ⟨List.mem_of_getElem? (i := 460) (by decide +kernel), by decide +kernel⟩
theorem tw_433 : Cond.code yX6_sameArgument cX6_sameArgument 3 (some .boolean) ∈ tbw := List.mem_filter.mpr ⟨List.mem_of_getElem? (i := 461) (by decide +kernel), by decide +kernel⟩
theorem tw_434 : Cond.methodLink RX6 88 yX6_kinds ∈ tbw := List.mem_filter.mpr ⟨List.mem_of_getElem? (i := 462) (by decide +kernel), by decide +kernel⟩
theorem tw_436 : Cond.instanceMethod yX6_kinds ∈ tbw := List.mem_filter.mpr ⟨List.mem_of_getElem? (i := 464) (by decide +kernel), by decide +kernel⟩
theorem tw_437 : Cond.code yX6_kinds cX6_kinds 3 (some .int) ∈ tbw := List.mem_filter.mpr ⟨List.mem_of_getElem? (i := 465) (by decide +kernel), by decide +kernel⟩
theorem tw_438 : Cond.methodLink RL 26 yX6_differ ∈ tbw := List.mem_filter.mpr ⟨List.mem_of_getElem? (i := 466) (by decide +kernel), by decide +kernel⟩
theorem tw_439 : Cond.instanceMethod yX6_differ ∈ tbw := List.mem_filter.mpr ⟨List.mem_of_getElem? (i := 467) (by decide +kernel), by decide +kernel⟩
theorem tw_440 : Cond.selects RX6 yX6_differ yX6_differ ∈ tbw := List.mem_filter.mpr ⟨List.mem_of_getElem? (i := 468) (by decide +kernel), by decide +kernel⟩
theorem tw_441 : Cond.code yX6_differ cX6_differ 3 (some .int) ∈ tbw := List.mem_filter.mpr ⟨List.mem_of_getElem? (i := 469) (by decide +kernel), by decide +kernel⟩
theorem tw_442 : Cond.methodLink RL 31 yX6_open ∈ tbw := List.mem_filter.mpr ⟨List.mem_of_getElem? (i := 470) (by decide +kernel), by decide +kernel⟩
theorem tw_443 : Cond.instanceMethod yX6_open ∈ tbw := List.mem_filter.mpr ⟨List.mem_of_getElem? (i := 471) (by decide +kernel), by decide +kernel⟩
theorem tw_444 : Cond.selects RX6 yX6_open yX6_open ∈ tbw := List.mem_filter.mpr ⟨List.mem_of_getElem? (i := 472) (by decide +kernel), by decide +kernel⟩
theorem tw_445 : Cond.code yX6_open cX6_open 1 (some .int) ∈ tbw := List.mem_filter.mpr ⟨List.mem_of_getElem? (i := 473) (by decide +kernel), by decide +kernel⟩
theorem tw_446 : Cond.methodLink RL 35 yX6_close ∈ tbw := List.mem_filter.mpr ⟨List.mem_of_getElem? (i := 474) (by decide +kernel), by decide +kernel⟩
theorem tw_447 : Cond.instanceMethod yX6_close ∈ tbw := List.mem_filter.mpr ⟨List.mem_of_getElem? (i := 475) (by decide +kernel), by decide +kernel⟩
theorem tw_448 : Cond.selects RX6 yX6_close yX6_close ∈ tbw := List.mem_filter.mpr ⟨List.mem_of_getElem? (i := 476) (by decide +kernel), by decide +kernel⟩
theorem tw_449 : Cond.code yX6_close cX6_close 1 (some .int) ∈ tbw := List.mem_filter.mpr ⟨List.mem_of_getElem? (i := 477) (by decide +kernel), by decide +kernel⟩
theorem tw_450 : Cond.methodLink RL 39 yX6_equal ∈ tbw := List.mem_filter.mpr ⟨List.mem_of_getElem? (i := 478) (by decide +kernel), by decide +kernel⟩
theorem tw_451 : Cond.instanceMethod yX6_equal ∈ tbw := List.mem_filter.mpr ⟨List.mem_of_getElem? (i := 479) (by decide +kernel), by decide +kernel⟩
theorem tw_452 : Cond.selects RX6 yX6_equal yX6_equal ∈ tbw := List.mem_filter.mpr ⟨List.mem_of_getElem? (i := 480) (by decide +kernel), by decide +kernel⟩
theorem tw_453 : Cond.code yX6_equal cX6_equal 3 (some .int) ∈ tbw := List.mem_filter.mpr ⟨List.mem_of_getElem? (i := 481) (by decide +kernel), by decide +kernel⟩
theorem tw_454 : Cond.methodLink RX6 74 yX6_joined ∈ tbw := List.mem_filter.mpr ⟨List.mem_of_getElem? (i := 482) (by decide +kernel), by decide +kernel⟩
theorem tw_456 : Cond.instanceMethod yX6_joined ∈ tbw := List.mem_filter.mpr ⟨List.mem_of_getElem? (i := 484) (by decide +kernel), by decide +kernel⟩
theorem tw_457 : Cond.code yX6_joined cX6_joined 3 (some .boolean) ∈ tbw := List.mem_filter.mpr ⟨List.mem_of_getElem? (i := 485) (by decide +kernel), by decide +kernel⟩
theorem tw_458 : Cond.methodLink RL 43 yX6_apart ∈ tbw := List.mem_filter.mpr ⟨List.mem_of_getElem? (i := 486) (by decide +kernel), by decide +kernel⟩
theorem tw_459 : Cond.instanceMethod yX6_apart ∈ tbw := List.mem_filter.mpr ⟨List.mem_of_getElem? (i := 487) (by decide +kernel), by decide +kernel⟩
theorem tw_460 : Cond.selects RX6 yX6_apart yX6_apart ∈ tbw := List.mem_filter.mpr ⟨List.mem_of_getElem? (i := 488) (by decide +kernel), by decide +kernel⟩
theorem tw_461 : Cond.code yX6_apart cX6_apart 6 (some .int) ∈ tbw := List.mem_filter.mpr ⟨List.mem_of_getElem? (i := 489) (by decide +kernel), by decide +kernel⟩
theorem tw_462 : Cond.methodLink RL 48 yX6_consistent ∈ tbw := List.mem_filter.mpr ⟨List.mem_of_getElem? (i := 490) (by decide +kernel), by decide +kernel⟩
theorem tw_463 : Cond.instanceMethod yX6_consistent ∈ tbw := List.mem_filter.mpr ⟨List.mem_of_getElem? (i := 491) (by decide +kernel), by decide +kernel⟩
theorem tw_464 : Cond.selects RX6 yX6_consistent yX6_consistent ∈ tbw := List.mem_filter.mpr ⟨List.mem_of_getElem? (i := 492) (by decide +kernel), by decide +kernel⟩
theorem tw_465 : Cond.code yX6_consistent cX6_consistent 3 (some .boolean) ∈ tbw := List.mem_filter.mpr ⟨List.mem_of_getElem? (i := 493) (by decide +kernel), by decide +kernel⟩
theorem tw_466 : Cond.methodLink RL 53 yX6_leader ∈ tbw := List.mem_filter.mpr ⟨List.mem_of_getElem? (i := 494) (by decide +kernel), by decide +kernel⟩
theorem tw_467 : Cond.instanceMethod yX6_leader ∈ tbw := List.mem_filter.mpr ⟨List.mem_of_getElem? (i := 495) (by decide +kernel), by decide +kernel⟩
theorem tw_468 : Cond.selects RX6 yX6_leader yX6_leader ∈ tbw := List.mem_filter.mpr ⟨List.mem_of_getElem? (i := 496) (by decide +kernel), by decide +kernel⟩
theorem tw_469 : Cond.code yX6_leader cX6_leader 2 (some .int) ∈ tbw := List.mem_filter.mpr ⟨List.mem_of_getElem? (i := 497) (by decide +kernel), by decide +kernel⟩
theorem tw_470 : Cond.methodLink RL 57 yX6_members ∈ tbw := List.mem_filter.mpr ⟨List.mem_of_getElem? (i := 498) (by decide +kernel), by decide +kernel⟩
theorem tw_471 : Cond.instanceMethod yX6_members ∈ tbw := List.mem_filter.mpr ⟨List.mem_of_getElem? (i := 499) (by decide +kernel), by decide +kernel⟩
theorem tw_472 : Cond.selects RX6 yX6_members yX6_members ∈ tbw := List.mem_filter.mpr ⟨List.mem_of_getElem? (i := 500) (by decide +kernel), by decide +kernel⟩
theorem tw_473 : Cond.code yX6_members cX6_members 4 (some .int) ∈ tbw := List.mem_filter.mpr ⟨List.mem_of_getElem? (i := 501) (by decide +kernel), by decide +kernel⟩
theorem tw_474 : Cond.methodLink RL 61 yX6_classes ∈ tbw := List.mem_filter.mpr ⟨List.mem_of_getElem? (i := 502) (by decide +kernel), by decide +kernel⟩
theorem tw_475 : Cond.instanceMethod yX6_classes ∈ tbw := List.mem_filter.mpr ⟨List.mem_of_getElem? (i := 503) (by decide +kernel), by decide +kernel⟩
theorem tw_476 : Cond.selects RX6 yX6_classes yX6_classes ∈ tbw := List.mem_filter.mpr ⟨List.mem_of_getElem? (i := 504) (by decide +kernel), by decide +kernel⟩
theorem tw_477 : Cond.code yX6_classes cX6_classes 1 (some .int) ∈ tbw := List.mem_filter.mpr ⟨List.mem_of_getElem? (i := 505) (by decide +kernel), by decide +kernel⟩
theorem tw_478 : Cond.methodLink RL 65 yX6_find ∈ tbw := List.mem_filter.mpr ⟨List.mem_of_getElem? (i := 506) (by decide +kernel), by decide +kernel⟩
theorem tw_479 : Cond.instanceMethod yX6_find ∈ tbw := List.mem_filter.mpr ⟨List.mem_of_getElem? (i := 507) (by decide +kernel), by decide +kernel⟩
theorem tw_480 : Cond.selects RX6 yX6_find yX6_find ∈ tbw := List.mem_filter.mpr ⟨List.mem_of_getElem? (i := 508) (by decide +kernel), by decide +kernel⟩
theorem tw_481 : Cond.code yX6_find cX6_find 5 (some .int) ∈ tbw := List.mem_filter.mpr ⟨List.mem_of_getElem? (i := 509) (by decide +kernel), by decide +kernel⟩
theorem tw_482 : Cond.methodLink RL 69 yX6_since ∈ tbw := List.mem_filter.mpr ⟨List.mem_of_getElem? (i := 510) (by decide +kernel), by decide +kernel⟩
theorem tw_483 : Cond.instanceMethod yX6_since ∈ tbw := List.mem_filter.mpr ⟨List.mem_of_getElem? (i := 511) (by decide +kernel), by decide +kernel⟩
theorem tw_484 : Cond.selects RX6 yX6_since yX6_since ∈ tbw := List.mem_filter.mpr ⟨List.mem_of_getElem? (i := 512) (by decide +kernel), by decide +kernel⟩
theorem tw_485 : Cond.code yX6_since cX6_since 3 (some .int) ∈ tbw := List.mem_filter.mpr ⟨List.mem_of_getElem? (i := 513) (by decide +kernel), by decide +kernel⟩
theorem tw_486 : Cond.methodLink RX6 98 yX6_first ∈ tbw := List.mem_filter.mpr ⟨List.mem_of_getElem? (i := 514) (by decide +kernel), by decide +kernel⟩
theorem tw_488 : Cond.instanceMethod yX6_first ∈ tbw := List.mem_filter.mpr ⟨List.mem_of_getElem? (i := 516) (by decide +kernel), by decide +kernel⟩
theorem tw_489 : Cond.code yX6_first cX6_first 5 (some .int) ∈ tbw := List.mem_filter.mpr ⟨List.mem_of_getElem? (i := 517) (by decide +kernel), by decide +kernel⟩
theorem tw_490 : Cond.methodLink RL 73 yX6_explanation ∈ tbw := List.mem_filter.mpr ⟨List.mem_of_getElem? (i := 518) (by decide +kernel), by decide +kernel⟩
theorem tw_491 : Cond.instanceMethod yX6_explanation ∈ tbw := List.mem_filter.mpr ⟨List.mem_of_getElem? (i := 519) (by decide +kernel), by decide +kernel⟩
theorem tw_492 : Cond.selects RX6 yX6_explanation yX6_explanation ∈ tbw := List.mem_filter.mpr ⟨List.mem_of_getElem? (i := 520) (by decide +kernel), by decide +kernel⟩
theorem tw_493 : Cond.code yX6_explanation cX6_explanation 5 (some .int) ∈ tbw := List.mem_filter.mpr ⟨List.mem_of_getElem? (i := 521) (by decide +kernel), by decide +kernel⟩
theorem tw_494 : Cond.methodLink RL 77 yX6_needed ∈ tbw := List.mem_filter.mpr ⟨List.mem_of_getElem? (i := 522) (by decide +kernel), by decide +kernel⟩
theorem tw_495 : Cond.instanceMethod yX6_needed ∈ tbw := List.mem_filter.mpr ⟨List.mem_of_getElem? (i := 523) (by decide +kernel), by decide +kernel⟩
theorem tw_496 : Cond.selects RX6 yX6_needed yX6_needed ∈ tbw := List.mem_filter.mpr ⟨List.mem_of_getElem? (i := 524) (by decide +kernel), by decide +kernel⟩
theorem tw_497 : Cond.code yX6_needed cX6_needed 6 (some .int) ∈ tbw := List.mem_filter.mpr ⟨List.mem_of_getElem? (i := 525) (by decide +kernel), by decide +kernel⟩
theorem tw_498 : Cond.methodLink RL 82 yX6_weight ∈ tbw := List.mem_filter.mpr ⟨List.mem_of_getElem? (i := 526) (by decide +kernel), by decide +kernel⟩
theorem tw_499 : Cond.instanceMethod yX6_weight ∈ tbw := List.mem_filter.mpr ⟨List.mem_of_getElem? (i := 527) (by decide +kernel), by decide +kernel⟩
theorem tw_500 : Cond.selects RX6 yX6_weight yX6_weight ∈ tbw := List.mem_filter.mpr ⟨List.mem_of_getElem? (i := 528) (by decide +kernel), by decide +kernel⟩
theorem tw_501 : Cond.code yX6_weight cX6_weight 2 (some .long) ∈ tbw := List.mem_filter.mpr ⟨List.mem_of_getElem? (i := 529) (by decide +kernel), by decide +kernel⟩
theorem tw_502 : Cond.methodLink RX6 109 yX6_weigh ∈ tbw := List.mem_filter.mpr ⟨List.mem_of_getElem? (i := 530) (by decide +kernel), by decide +kernel⟩
theorem tw_504 : Cond.instanceMethod yX6_weigh ∈ tbw := List.mem_filter.mpr ⟨List.mem_of_getElem? (i := 532) (by decide +kernel), by decide +kernel⟩
theorem tw_505 : Cond.code yX6_weigh cX6_weigh 7 none ∈ tbw := List.mem_filter.mpr ⟨List.mem_of_getElem? (i := 533) (by decide +kernel), by decide +kernel⟩
theorem tw_506 : Cond.methodLink RX6 106 yX6_sum ∈ tbw := List.mem_filter.mpr ⟨List.mem_of_getElem? (i := 534) (by decide +kernel), by decide +kernel⟩
theorem tw_508 : Cond.instanceMethod yX6_sum ∈ tbw := List.mem_filter.mpr ⟨List.mem_of_getElem? (i := 536) (by decide +kernel), by decide +kernel⟩
theorem tw_509 : Cond.code yX6_sum cX6_sum 5 (some .long) ∈ tbw := List.mem_filter.mpr ⟨List.mem_of_getElem? (i := 537) (by decide +kernel), by decide +kernel⟩
theorem tw_510 : Cond.methodLink RX6 102 yX6_argument ∈ tbw := List.mem_filter.mpr ⟨List.mem_of_getElem? (i := 538) (by decide +kernel), by decide +kernel⟩
theorem tw_512 : Cond.instanceMethod yX6_argument ∈ tbw := List.mem_filter.mpr ⟨List.mem_of_getElem? (i := 540) (by decide +kernel), by decide +kernel⟩
theorem tw_513 : Cond.code yX6_argument cX6_argument 2 (some .long) ∈ tbw := List.mem_filter.mpr ⟨List.mem_of_getElem? (i := 541) (by decide +kernel), by decide +kernel⟩
theorem tw_514 : Cond.methodLink RL 86 yX6_best ∈ tbw := List.mem_filter.mpr ⟨List.mem_of_getElem? (i := 542) (by decide +kernel), by decide +kernel⟩
theorem tw_515 : Cond.instanceMethod yX6_best ∈ tbw := List.mem_filter.mpr ⟨List.mem_of_getElem? (i := 543) (by decide +kernel), by decide +kernel⟩
theorem tw_516 : Cond.selects RX6 yX6_best yX6_best ∈ tbw := List.mem_filter.mpr ⟨List.mem_of_getElem? (i := 544) (by decide +kernel), by decide +kernel⟩
theorem tw_517 : Cond.code yX6_best cX6_best 2 (some .int) ∈ tbw := List.mem_filter.mpr ⟨List.mem_of_getElem? (i := 545) (by decide +kernel), by decide +kernel⟩
theorem tw_518 : Cond.methodLink RX6 112 yX6_bestOf ∈ tbw := List.mem_filter.mpr ⟨List.mem_of_getElem? (i := 546) (by decide +kernel), by decide +kernel⟩
theorem tw_520 : Cond.instanceMethod yX6_bestOf ∈ tbw := List.mem_filter.mpr ⟨List.mem_of_getElem? (i := 548) (by decide +kernel), by decide +kernel⟩
theorem tw_521 : Cond.code yX6_bestOf cX6_bestOf 4 (some .int) ∈ tbw := List.mem_filter.mpr ⟨List.mem_of_getElem? (i := 549) (by decide +kernel), by decide +kernel⟩
theorem tw_522 : Cond.methodLink RL 90 yX6_written ∈ tbw := List.mem_filter.mpr ⟨List.mem_of_getElem? (i := 550) (by decide +kernel), by decide +kernel⟩
theorem tw_523 : Cond.instanceMethod yX6_written ∈ tbw := List.mem_filter.mpr ⟨List.mem_of_getElem? (i := 551) (by decide +kernel), by decide +kernel⟩
theorem tw_524 : Cond.selects RX6 yX6_written yX6_written ∈ tbw := List.mem_filter.mpr ⟨List.mem_of_getElem? (i := 552) (by decide +kernel), by decide +kernel⟩
theorem tw_525 : Cond.code yX6_written cX6_written 9 (some .int) ∈ tbw := List.mem_filter.mpr ⟨List.mem_of_getElem? (i := 553) (by decide +kernel), by decide +kernel⟩
theorem tw_526 : Cond.methodLink RL 94 yX6_terms ∈ tbw := List.mem_filter.mpr ⟨List.mem_of_getElem? (i := 554) (by decide +kernel), by decide +kernel⟩
theorem tw_527 : Cond.instanceMethod yX6_terms ∈ tbw := List.mem_filter.mpr ⟨List.mem_of_getElem? (i := 555) (by decide +kernel), by decide +kernel⟩
theorem tw_528 : Cond.selects RX6 yX6_terms yX6_terms ∈ tbw := List.mem_filter.mpr ⟨List.mem_of_getElem? (i := 556) (by decide +kernel), by decide +kernel⟩
theorem tw_529 : Cond.code yX6_terms cX6_terms 1 (some .int) ∈ tbw := List.mem_filter.mpr ⟨List.mem_of_getElem? (i := 557) (by decide +kernel), by decide +kernel⟩
theorem tw_530 : Cond.methodLink RL 98 yX6_equations ∈ tbw := List.mem_filter.mpr ⟨List.mem_of_getElem? (i := 558) (by decide +kernel), by decide +kernel⟩
theorem tw_531 : Cond.instanceMethod yX6_equations ∈ tbw := List.mem_filter.mpr ⟨List.mem_of_getElem? (i := 559) (by decide +kernel), by decide +kernel⟩
theorem tw_532 : Cond.selects RX6 yX6_equations yX6_equations ∈ tbw := List.mem_filter.mpr ⟨List.mem_of_getElem? (i := 560) (by decide +kernel), by decide +kernel⟩
theorem tw_533 : Cond.code yX6_equations cX6_equations 1 (some .int) ∈ tbw := List.mem_filter.mpr ⟨List.mem_of_getElem? (i := 561) (by decide +kernel), by decide +kernel⟩
theorem ts_0 : Cond.selects RX5 yX5_isShape yX5_isShape ∈ tbw := List.mem_filter.mpr ⟨List.mem_of_getElem? (i := 0) (by decide +kernel), by decide +kernel⟩
theorem ts_1 : Cond.selects RX5 yX5_isTerm yX5_isTerm ∈ tbw := List.mem_filter.mpr ⟨List.mem_of_getElem? (i := 1) (by decide +kernel), by decide +kernel⟩
theorem ts_2 : Cond.selects RX5 yX5_settleCurrent yX5_settleCurrent ∈ tbw := List.mem_filter.mpr ⟨List.mem_of_getElem? (i := 2) (by decide +kernel), by decide +kernel⟩
theorem ts_3 : Cond.selects RX2 yX2_merge yX2_merge ∈ tbw := List.mem_filter.mpr ⟨List.mem_of_getElem? (i := 3) (by decide +kernel), by decide +kernel⟩
theorem ts_4 : Cond.selects RX2 yX2_mergeCongruent yX2_mergeCongruent ∈ tbw := List.mem_filter.mpr ⟨List.mem_of_getElem? (i := 4) (by decide +kernel), by decide +kernel⟩
theorem ts_5 : Cond.selects RX2 yX2_congruent yX2_congruent ∈ tbw := List.mem_filter.mpr ⟨List.mem_of_getElem? (i := 5) (by decide +kernel), by decide +kernel⟩
theorem ts_6 : Cond.selects RX2 yX2_sameArgument yX2_sameArgument ∈ tbw := List.mem_filter.mpr ⟨List.mem_of_getElem? (i := 6) (by decide +kernel), by decide +kernel⟩
theorem ts_7 : Cond.selects RX5 yX5_areTerms yX5_areTerms ∈ tbw := List.mem_filter.mpr ⟨List.mem_of_getElem? (i := 7) (by decide +kernel), by decide +kernel⟩
theorem ts_8 : Cond.selects RX5 yX5_followsFrom yX5_followsFrom ∈ tbw := List.mem_filter.mpr ⟨List.mem_of_getElem? (i := 8) (by decide +kernel), by decide +kernel⟩
theorem ts_9 : Cond.selects RX4 yX4_lower yX4_lower ∈ tbw := List.mem_filter.mpr ⟨List.mem_of_getElem? (i := 9) (by decide +kernel), by decide +kernel⟩
theorem ts_10 : Cond.selects RX4 yX4_costOf yX4_costOf ∈ tbw := List.mem_filter.mpr ⟨List.mem_of_getElem? (i := 10) (by decide +kernel), by decide +kernel⟩
theorem ts_11 : Cond.selects RX4 yX4_ofArgument yX4_ofArgument ∈ tbw := List.mem_filter.mpr ⟨List.mem_of_getElem? (i := 11) (by decide +kernel), by decide +kernel⟩
theorem ts_12 : Cond.selects RX6 yX6_wrongParts yX6_wrongParts ∈ tbw := List.mem_filter.mpr ⟨List.mem_of_getElem? (i := 12) (by decide +kernel), by decide +kernel⟩
theorem ts_13 : Cond.selects RX6 yX6_isTerm yX6_isTerm ∈ tbw := List.mem_filter.mpr ⟨List.mem_of_getElem? (i := 13) (by decide +kernel), by decide +kernel⟩
theorem ts_14 : Cond.selects RX6 yX6_workAll yX6_workAll ∈ tbw := List.mem_filter.mpr ⟨List.mem_of_getElem? (i := 14) (by decide +kernel), by decide +kernel⟩
theorem ts_15 : Cond.selects RX6 yX6_work yX6_work ∈ tbw := List.mem_filter.mpr ⟨List.mem_of_getElem? (i := 15) (by decide +kernel), by decide +kernel⟩
theorem ts_16 : Cond.selects RX6 yX6_alone yX6_alone ∈ tbw := List.mem_filter.mpr ⟨List.mem_of_getElem? (i := 16) (by decide +kernel), by decide +kernel⟩
theorem ts_17 : Cond.selects RX6 yX6_join yX6_join ∈ tbw := List.mem_filter.mpr ⟨List.mem_of_getElem? (i := 17) (by decide +kernel), by decide +kernel⟩
theorem ts_18 : Cond.selects RX6 yX6_settle yX6_settle ∈ tbw := List.mem_filter.mpr ⟨List.mem_of_getElem? (i := 18) (by decide +kernel), by decide +kernel⟩
theorem ts_19 : Cond.selects RX6 yX6_alike yX6_alike ∈ tbw := List.mem_filter.mpr ⟨List.mem_of_getElem? (i := 19) (by decide +kernel), by decide +kernel⟩
theorem ts_20 : Cond.selects RX6 yX6_sameArgument yX6_sameArgument ∈ tbw := List.mem_filter.mpr ⟨List.mem_of_getElem? (i := 20) (by decide +kernel), by decide +kernel⟩
theorem ts_21 : Cond.selects RX6 yX6_kinds yX6_kinds ∈ tbw := List.mem_filter.mpr ⟨List.mem_of_getElem? (i := 21) (by decide +kernel), by decide +kernel⟩
theorem ts_22 : Cond.selects RX6 yX6_joined yX6_joined ∈ tbw := List.mem_filter.mpr ⟨List.mem_of_getElem? (i := 22) (by decide +kernel), by decide +kernel⟩
theorem ts_23 : Cond.selects RX6 yX6_first yX6_first ∈ tbw := List.mem_filter.mpr ⟨List.mem_of_getElem? (i := 23) (by decide +kernel), by decide +kernel⟩
theorem ts_24 : Cond.selects RX6 yX6_weigh yX6_weigh ∈ tbw := List.mem_filter.mpr ⟨List.mem_of_getElem? (i := 24) (by decide +kernel), by decide +kernel⟩
theorem ts_25 : Cond.selects RX6 yX6_sum yX6_sum ∈ tbw := List.mem_filter.mpr ⟨List.mem_of_getElem? (i := 25) (by decide +kernel), by decide +kernel⟩
theorem ts_26 : Cond.selects RX6 yX6_argument yX6_argument ∈ tbw := List.mem_filter.mpr ⟨List.mem_of_getElem? (i := 26) (by decide +kernel), by decide +kernel⟩
theorem ts_27 : Cond.selects RX6 yX6_bestOf yX6_bestOf ∈ tbw := List.mem_filter.mpr ⟨List.mem_of_getElem? (i := 27) (by decide +kernel), by decide +kernel⟩
theorem tbX0 : ∀ w ∈ u_ws RX0 TX0 4, w ∈ tbw := by
  intro w hw
  obtain ⟨k, hk, rfl⟩ := List.mem_map.mp hw
  have hk := List.mem_range.mp hk
  match k, hk with
  | 0, _ => exact tw_83
  | 1, _ => exact tw_85
  | 2, _ => exact tw_87
  | 3, _ => exact tw_89
  | k + 4, h => exact absurd h (by omega)
theorem tbX1 : ∀ w ∈ u_ws RX1 TX1 3, w ∈ tbw := by
  intro w hw
  obtain ⟨k, hk, rfl⟩ := List.mem_map.mp hw
  have hk := List.mem_range.mp hk
  match k, hk with
  | 0, _ => exact tw_62
  | 1, _ => exact tw_64
  | 2, _ => exact tw_66
  | k + 3, h => exact absurd h (by omega)
theorem tbX2 : ∀ w ∈ u_ws RX2 TX2 1, w ∈ tbw := by
  intro w hw
  obtain ⟨k, hk, rfl⟩ := List.mem_map.mp hw
  have hk := List.mem_range.mp hk
  match k, hk with
  | 0, _ => exact tw_101
  | k + 1, h => exact absurd h (by omega)
theorem tbX3 : ∀ w ∈ u_ws RX3 TX3 4, w ∈ tbw := by
  intro w hw
  obtain ⟨k, hk, rfl⟩ := List.mem_map.mp hw
  have hk := List.mem_range.mp hk
  match k, hk with
  | 0, _ => exact tw_37
  | 1, _ => exact tw_39
  | 2, _ => exact tw_41
  | 3, _ => exact tw_43
  | k + 4, h => exact absurd h (by omega)
theorem tbX4 : ∀ w ∈ u_ws RX4 TX4 1, w ∈ tbw := by
  intro w hw
  obtain ⟨k, hk, rfl⟩ := List.mem_map.mp hw
  have hk := List.mem_range.mp hk
  match k, hk with
  | 0, _ => exact tw_111
  | k + 1, h => exact absurd h (by omega)
theorem tbX5 : ∀ w ∈ u_ws RX5 TX5 7, w ∈ tbw := by
  intro w hw
  obtain ⟨k, hk, rfl⟩ := List.mem_map.mp hw
  have hk := List.mem_range.mp hk
  match k, hk with
  | 0, _ => exact tw_122
  | 1, _ => exact tw_124
  | 2, _ => exact tw_126
  | 3, _ => exact tw_128
  | 4, _ => exact tw_130
  | 5, _ => exact tw_132
  | 6, _ => exact tw_134
  | k + 7, h => exact absurd h (by omega)
theorem tbX6 : ∀ w ∈ u_ws RX6 TX6 16, w ∈ tbw := by
  intro w hw
  obtain ⟨k, hk, rfl⟩ := List.mem_map.mp hw
  have hk := List.mem_range.mp hk
  match k, hk with
  | 0, _ => exact tw_357
  | 1, _ => exact tw_359
  | 2, _ => exact tw_361
  | 3, _ => exact tw_363
  | 4, _ => exact tw_365
  | 5, _ => exact tw_367
  | 6, _ => exact tw_369
  | 7, _ => exact tw_371
  | 8, _ => exact tw_373
  | 9, _ => exact tw_375
  | 10, _ => exact tw_377
  | 11, _ => exact tw_379
  | 12, _ => exact tw_381
  | 13, _ => exact tw_383
  | 14, _ => exact tw_385
  | 15, _ => exact tw_387
  | k + 16, h => exact absurd h (by omega)
theorem hdX0_init : yX0_init.cls = RX0 ∧ yX0_init.cls ≠ "java/lang/invoke/MethodHandle" ∧ yX0_init.cls ≠ "java/lang/invoke/VarHandle" ∧ (parseMethodDescriptor yX0_init.desc).map (fun d => d.parameters.length) = some 0 := by decide +kernel
theorem hdX0_push : yX0_push.cls = RX0 ∧ yX0_push.cls ≠ "java/lang/invoke/MethodHandle" ∧ yX0_push.cls ≠ "java/lang/invoke/VarHandle" ∧ (parseMethodDescriptor yX0_push.desc).map (fun d => d.parameters.length) = some 3 := by decide +kernel
theorem hdX1_init : yX1_init.cls = RX1 ∧ yX1_init.cls ≠ "java/lang/invoke/MethodHandle" ∧ yX1_init.cls ≠ "java/lang/invoke/VarHandle" ∧ (parseMethodDescriptor yX1_init.desc).map (fun d => d.parameters.length) = some 1 := by decide +kernel
theorem hdX1_isFull : yX1_isFull.cls = RX1 ∧ yX1_isFull.cls ≠ "java/lang/invoke/MethodHandle" ∧ yX1_isFull.cls ≠ "java/lang/invoke/VarHandle" ∧ (parseMethodDescriptor yX1_isFull.desc).map (fun d => d.parameters.length) = some 0 := by decide +kernel
theorem hdX1_add : yX1_add.cls = RX1 ∧ yX1_add.cls ≠ "java/lang/invoke/MethodHandle" ∧ yX1_add.cls ≠ "java/lang/invoke/VarHandle" ∧ (parseMethodDescriptor yX1_add.desc).map (fun d => d.parameters.length) = some 2 := by decide +kernel
theorem hdX2_init : yX2_init.cls = RX2 ∧ yX2_init.cls ≠ "java/lang/invoke/MethodHandle" ∧ yX2_init.cls ≠ "java/lang/invoke/VarHandle" ∧ (parseMethodDescriptor yX2_init.desc).map (fun d => d.parameters.length) = some 0 := by decide +kernel
theorem hdX2_joins : yX2_joins.cls = RX2 ∧ yX2_joins.cls ≠ "java/lang/invoke/MethodHandle" ∧ yX2_joins.cls ≠ "java/lang/invoke/VarHandle" ∧ (parseMethodDescriptor yX2_joins.desc).map (fun d => d.parameters.length) = some 2 := by decide +kernel
theorem hdX2_classCount : yX2_classCount.cls = RX2 ∧ yX2_classCount.cls ≠ "java/lang/invoke/MethodHandle" ∧ yX2_classCount.cls ≠ "java/lang/invoke/VarHandle" ∧ (parseMethodDescriptor yX2_classCount.desc).map (fun d => d.parameters.length) = some 1 := by decide +kernel
theorem hdX2_fits : yX2_fits.cls = RX2 ∧ yX2_fits.cls ≠ "java/lang/invoke/MethodHandle" ∧ yX2_fits.cls ≠ "java/lang/invoke/VarHandle" ∧ (parseMethodDescriptor yX2_fits.desc).map (fun d => d.parameters.length) = some 5 := by decide +kernel
theorem hdX2_sameArgument : yX2_sameArgument.cls = RX2 ∧ yX2_sameArgument.cls ≠ "java/lang/invoke/MethodHandle" ∧ yX2_sameArgument.cls ≠ "java/lang/invoke/VarHandle" ∧ (parseMethodDescriptor yX2_sameArgument.desc).map (fun d => d.parameters.length) = some 2 := by decide +kernel
theorem hdX2_settle : yX2_settle.cls = RX2 ∧ yX2_settle.cls ≠ "java/lang/invoke/MethodHandle" ∧ yX2_settle.cls ≠ "java/lang/invoke/VarHandle" ∧ (parseMethodDescriptor yX2_settle.desc).map (fun d => d.parameters.length) = some 3 := by decide +kernel
theorem hdX2_mergeCongruent : yX2_mergeCongruent.cls = RX2 ∧ yX2_mergeCongruent.cls ≠ "java/lang/invoke/MethodHandle" ∧ yX2_mergeCongruent.cls ≠ "java/lang/invoke/VarHandle" ∧ (parseMethodDescriptor yX2_mergeCongruent.desc).map (fun d => d.parameters.length) = some 1 := by decide +kernel
theorem hdX2_congruent : yX2_congruent.cls = RX2 ∧ yX2_congruent.cls ≠ "java/lang/invoke/MethodHandle" ∧ yX2_congruent.cls ≠ "java/lang/invoke/VarHandle" ∧ (parseMethodDescriptor yX2_congruent.desc).map (fun d => d.parameters.length) = some 3 := by decide +kernel
theorem hdX2_merge : yX2_merge.cls = RX2 ∧ yX2_merge.cls ≠ "java/lang/invoke/MethodHandle" ∧ yX2_merge.cls ≠ "java/lang/invoke/VarHandle" ∧ (parseMethodDescriptor yX2_merge.desc).map (fun d => d.parameters.length) = some 3 := by decide +kernel
theorem hdX3_init : yX3_init.cls = RX3 ∧ yX3_init.cls ≠ "java/lang/invoke/MethodHandle" ∧ yX3_init.cls ≠ "java/lang/invoke/VarHandle" ∧ (parseMethodDescriptor yX3_init.desc).map (fun d => d.parameters.length) = some 0 := by decide +kernel
theorem hdX3_numberOf : yX3_numberOf.cls = RX3 ∧ yX3_numberOf.cls ≠ "java/lang/invoke/MethodHandle" ∧ yX3_numberOf.cls ≠ "java/lang/invoke/VarHandle" ∧ (parseMethodDescriptor yX3_numberOf.desc).map (fun d => d.parameters.length) = some 3 := by decide +kernel
theorem hdX3_add : yX3_add.cls = RX3 ∧ yX3_add.cls ≠ "java/lang/invoke/MethodHandle" ∧ yX3_add.cls ≠ "java/lang/invoke/VarHandle" ∧ (parseMethodDescriptor yX3_add.desc).map (fun d => d.parameters.length) = some 3 := by decide +kernel
theorem hdX4_init : yX4_init.cls = RX4 ∧ yX4_init.cls ≠ "java/lang/invoke/MethodHandle" ∧ yX4_init.cls ≠ "java/lang/invoke/VarHandle" ∧ (parseMethodDescriptor yX4_init.desc).map (fun d => d.parameters.length) = some 0 := by decide +kernel
theorem hdX4_weigh : yX4_weigh.cls = RX4 ∧ yX4_weigh.cls ≠ "java/lang/invoke/MethodHandle" ∧ yX4_weigh.cls ≠ "java/lang/invoke/VarHandle" ∧ (parseMethodDescriptor yX4_weigh.desc).map (fun d => d.parameters.length) = some 2 := by decide +kernel
theorem hdX4_lower : yX4_lower.cls = RX4 ∧ yX4_lower.cls ≠ "java/lang/invoke/MethodHandle" ∧ yX4_lower.cls ≠ "java/lang/invoke/VarHandle" ∧ (parseMethodDescriptor yX4_lower.desc).map (fun d => d.parameters.length) = some 2 := by decide +kernel
theorem hdX4_costOf : yX4_costOf.cls = RX4 ∧ yX4_costOf.cls ≠ "java/lang/invoke/MethodHandle" ∧ yX4_costOf.cls ≠ "java/lang/invoke/VarHandle" ∧ (parseMethodDescriptor yX4_costOf.desc).map (fun d => d.parameters.length) = some 3 := by decide +kernel
theorem hdX4_ofArgument : yX4_ofArgument.cls = RX4 ∧ yX4_ofArgument.cls ≠ "java/lang/invoke/MethodHandle" ∧ yX4_ofArgument.cls ≠ "java/lang/invoke/VarHandle" ∧ (parseMethodDescriptor yX4_ofArgument.desc).map (fun d => d.parameters.length) = some 2 := by decide +kernel
theorem hdX4_ofTerm : yX4_ofTerm.cls = RX4 ∧ yX4_ofTerm.cls ≠ "java/lang/invoke/MethodHandle" ∧ yX4_ofTerm.cls ≠ "java/lang/invoke/VarHandle" ∧ (parseMethodDescriptor yX4_ofTerm.desc).map (fun d => d.parameters.length) = some 2 := by decide +kernel
theorem hdX4_lightest : yX4_lightest.cls = RX4 ∧ yX4_lightest.cls ≠ "java/lang/invoke/MethodHandle" ∧ yX4_lightest.cls ≠ "java/lang/invoke/VarHandle" ∧ (parseMethodDescriptor yX4_lightest.desc).map (fun d => d.parameters.length) = some 3 := by decide +kernel
theorem hdX4_symbolAt : yX4_symbolAt.cls = RX4 ∧ yX4_symbolAt.cls ≠ "java/lang/invoke/MethodHandle" ∧ yX4_symbolAt.cls ≠ "java/lang/invoke/VarHandle" ∧ (parseMethodDescriptor yX4_symbolAt.desc).map (fun d => d.parameters.length) = some 4 := by decide +kernel
theorem hdX5_init : yX5_init.cls = RX5 ∧ yX5_init.cls ≠ "java/lang/invoke/MethodHandle" ∧ yX5_init.cls ≠ "java/lang/invoke/VarHandle" ∧ (parseMethodDescriptor yX5_init.desc).map (fun d => d.parameters.length) = some 0 := by decide +kernel
theorem hdX5_make : yX5_make.cls = RX5 ∧ yX5_make.cls ≠ "java/lang/invoke/MethodHandle" ∧ yX5_make.cls ≠ "java/lang/invoke/VarHandle" ∧ (parseMethodDescriptor yX5_make.desc).map (fun d => d.parameters.length) = some 3 := by decide +kernel
theorem hdX5_equate : yX5_equate.cls = RX5 ∧ yX5_equate.cls ≠ "java/lang/invoke/MethodHandle" ∧ yX5_equate.cls ≠ "java/lang/invoke/VarHandle" ∧ (parseMethodDescriptor yX5_equate.desc).map (fun d => d.parameters.length) = some 2 := by decide +kernel
theorem hdX5_differ : yX5_differ.cls = RX5 ∧ yX5_differ.cls ≠ "java/lang/invoke/MethodHandle" ∧ yX5_differ.cls ≠ "java/lang/invoke/VarHandle" ∧ (parseMethodDescriptor yX5_differ.desc).map (fun d => d.parameters.length) = some 2 := by decide +kernel
theorem hdX5_open : yX5_open.cls = RX5 ∧ yX5_open.cls ≠ "java/lang/invoke/MethodHandle" ∧ yX5_open.cls ≠ "java/lang/invoke/VarHandle" ∧ (parseMethodDescriptor yX5_open.desc).map (fun d => d.parameters.length) = some 0 := by decide +kernel
theorem hdX5_close : yX5_close.cls = RX5 ∧ yX5_close.cls ≠ "java/lang/invoke/MethodHandle" ∧ yX5_close.cls ≠ "java/lang/invoke/VarHandle" ∧ (parseMethodDescriptor yX5_close.desc).map (fun d => d.parameters.length) = some 0 := by decide +kernel
theorem hdX5_equal : yX5_equal.cls = RX5 ∧ yX5_equal.cls ≠ "java/lang/invoke/MethodHandle" ∧ yX5_equal.cls ≠ "java/lang/invoke/VarHandle" ∧ (parseMethodDescriptor yX5_equal.desc).map (fun d => d.parameters.length) = some 2 := by decide +kernel
theorem hdX5_apart : yX5_apart.cls = RX5 ∧ yX5_apart.cls ≠ "java/lang/invoke/MethodHandle" ∧ yX5_apart.cls ≠ "java/lang/invoke/VarHandle" ∧ (parseMethodDescriptor yX5_apart.desc).map (fun d => d.parameters.length) = some 2 := by decide +kernel
theorem hdX5_consistent : yX5_consistent.cls = RX5 ∧ yX5_consistent.cls ≠ "java/lang/invoke/MethodHandle" ∧ yX5_consistent.cls ≠ "java/lang/invoke/VarHandle" ∧ (parseMethodDescriptor yX5_consistent.desc).map (fun d => d.parameters.length) = some 0 := by decide +kernel
theorem hdX5_leader : yX5_leader.cls = RX5 ∧ yX5_leader.cls ≠ "java/lang/invoke/MethodHandle" ∧ yX5_leader.cls ≠ "java/lang/invoke/VarHandle" ∧ (parseMethodDescriptor yX5_leader.desc).map (fun d => d.parameters.length) = some 1 := by decide +kernel
theorem hdX5_members : yX5_members.cls = RX5 ∧ yX5_members.cls ≠ "java/lang/invoke/MethodHandle" ∧ yX5_members.cls ≠ "java/lang/invoke/VarHandle" ∧ (parseMethodDescriptor yX5_members.desc).map (fun d => d.parameters.length) = some 1 := by decide +kernel
theorem hdX5_classes : yX5_classes.cls = RX5 ∧ yX5_classes.cls ≠ "java/lang/invoke/MethodHandle" ∧ yX5_classes.cls ≠ "java/lang/invoke/VarHandle" ∧ (parseMethodDescriptor yX5_classes.desc).map (fun d => d.parameters.length) = some 0 := by decide +kernel
theorem hdX5_find : yX5_find.cls = RX5 ∧ yX5_find.cls ≠ "java/lang/invoke/MethodHandle" ∧ yX5_find.cls ≠ "java/lang/invoke/VarHandle" ∧ (parseMethodDescriptor yX5_find.desc).map (fun d => d.parameters.length) = some 3 := by decide +kernel
theorem hdX5_since : yX5_since.cls = RX5 ∧ yX5_since.cls ≠ "java/lang/invoke/MethodHandle" ∧ yX5_since.cls ≠ "java/lang/invoke/VarHandle" ∧ (parseMethodDescriptor yX5_since.desc).map (fun d => d.parameters.length) = some 2 := by decide +kernel
theorem hdX5_explanation : yX5_explanation.cls = RX5 ∧ yX5_explanation.cls ≠ "java/lang/invoke/MethodHandle" ∧ yX5_explanation.cls ≠ "java/lang/invoke/VarHandle" ∧ (parseMethodDescriptor yX5_explanation.desc).map (fun d => d.parameters.length) = some 2 := by decide +kernel
theorem hdX5_needed : yX5_needed.cls = RX5 ∧ yX5_needed.cls ≠ "java/lang/invoke/MethodHandle" ∧ yX5_needed.cls ≠ "java/lang/invoke/VarHandle" ∧ (parseMethodDescriptor yX5_needed.desc).map (fun d => d.parameters.length) = some 2 := by decide +kernel
theorem hdX5_weight : yX5_weight.cls = RX5 ∧ yX5_weight.cls ≠ "java/lang/invoke/MethodHandle" ∧ yX5_weight.cls ≠ "java/lang/invoke/VarHandle" ∧ (parseMethodDescriptor yX5_weight.desc).map (fun d => d.parameters.length) = some 1 := by decide +kernel
theorem hdX5_best : yX5_best.cls = RX5 ∧ yX5_best.cls ≠ "java/lang/invoke/MethodHandle" ∧ yX5_best.cls ≠ "java/lang/invoke/VarHandle" ∧ (parseMethodDescriptor yX5_best.desc).map (fun d => d.parameters.length) = some 1 := by decide +kernel
theorem hdX5_written : yX5_written.cls = RX5 ∧ yX5_written.cls ≠ "java/lang/invoke/MethodHandle" ∧ yX5_written.cls ≠ "java/lang/invoke/VarHandle" ∧ (parseMethodDescriptor yX5_written.desc).map (fun d => d.parameters.length) = some 2 := by decide +kernel
theorem hdX5_terms : yX5_terms.cls = RX5 ∧ yX5_terms.cls ≠ "java/lang/invoke/MethodHandle" ∧ yX5_terms.cls ≠ "java/lang/invoke/VarHandle" ∧ (parseMethodDescriptor yX5_terms.desc).map (fun d => d.parameters.length) = some 0 := by decide +kernel
theorem hdX5_equations : yX5_equations.cls = RX5 ∧ yX5_equations.cls ≠ "java/lang/invoke/MethodHandle" ∧ yX5_equations.cls ≠ "java/lang/invoke/VarHandle" ∧ (parseMethodDescriptor yX5_equations.desc).map (fun d => d.parameters.length) = some 0 := by decide +kernel
theorem hdX5_isTerm : yX5_isTerm.cls = RX5 ∧ yX5_isTerm.cls ≠ "java/lang/invoke/MethodHandle" ∧ yX5_isTerm.cls ≠ "java/lang/invoke/VarHandle" ∧ (parseMethodDescriptor yX5_isTerm.desc).map (fun d => d.parameters.length) = some 1 := by decide +kernel
theorem hdX5_areTerms : yX5_areTerms.cls = RX5 ∧ yX5_areTerms.cls ≠ "java/lang/invoke/MethodHandle" ∧ yX5_areTerms.cls ≠ "java/lang/invoke/VarHandle" ∧ (parseMethodDescriptor yX5_areTerms.desc).map (fun d => d.parameters.length) = some 2 := by decide +kernel
theorem hdX5_isShape : yX5_isShape.cls = RX5 ∧ yX5_isShape.cls ≠ "java/lang/invoke/MethodHandle" ∧ yX5_isShape.cls ≠ "java/lang/invoke/VarHandle" ∧ (parseMethodDescriptor yX5_isShape.desc).map (fun d => d.parameters.length) = some 3 := by decide +kernel
theorem hdX5_settleCurrent : yX5_settleCurrent.cls = RX5 ∧ yX5_settleCurrent.cls ≠ "java/lang/invoke/MethodHandle" ∧ yX5_settleCurrent.cls ≠ "java/lang/invoke/VarHandle" ∧ (parseMethodDescriptor yX5_settleCurrent.desc).map (fun d => d.parameters.length) = some 0 := by decide +kernel
theorem hdX5_followsFrom : yX5_followsFrom.cls = RX5 ∧ yX5_followsFrom.cls ≠ "java/lang/invoke/MethodHandle" ∧ yX5_followsFrom.cls ≠ "java/lang/invoke/VarHandle" ∧ (parseMethodDescriptor yX5_followsFrom.desc).map (fun d => d.parameters.length) = some 3 := by decide +kernel
theorem hdX5_allBelow : yX5_allBelow.cls = RX5 ∧ yX5_allBelow.cls ≠ "java/lang/invoke/MethodHandle" ∧ yX5_allBelow.cls ≠ "java/lang/invoke/VarHandle" ∧ (parseMethodDescriptor yX5_allBelow.desc).map (fun d => d.parameters.length) = some 1 := by decide +kernel
theorem hdX6_init : yX6_init.cls = RX6 ∧ yX6_init.cls ≠ "java/lang/invoke/MethodHandle" ∧ yX6_init.cls ≠ "java/lang/invoke/VarHandle" ∧ (parseMethodDescriptor yX6_init.desc).map (fun d => d.parameters.length) = some 0 := by decide +kernel
theorem hdX6_isTerm : yX6_isTerm.cls = RX6 ∧ yX6_isTerm.cls ≠ "java/lang/invoke/MethodHandle" ∧ yX6_isTerm.cls ≠ "java/lang/invoke/VarHandle" ∧ (parseMethodDescriptor yX6_isTerm.desc).map (fun d => d.parameters.length) = some 1 := by decide +kernel
theorem hdX6_alone : yX6_alone.cls = RX6 ∧ yX6_alone.cls ≠ "java/lang/invoke/MethodHandle" ∧ yX6_alone.cls ≠ "java/lang/invoke/VarHandle" ∧ (parseMethodDescriptor yX6_alone.desc).map (fun d => d.parameters.length) = some 0 := by decide +kernel
theorem hdX6_join : yX6_join.cls = RX6 ∧ yX6_join.cls ≠ "java/lang/invoke/MethodHandle" ∧ yX6_join.cls ≠ "java/lang/invoke/VarHandle" ∧ (parseMethodDescriptor yX6_join.desc).map (fun d => d.parameters.length) = some 2 := by decide +kernel
theorem hdX6_sameArgument : yX6_sameArgument.cls = RX6 ∧ yX6_sameArgument.cls ≠ "java/lang/invoke/MethodHandle" ∧ yX6_sameArgument.cls ≠ "java/lang/invoke/VarHandle" ∧ (parseMethodDescriptor yX6_sameArgument.desc).map (fun d => d.parameters.length) = some 2 := by decide +kernel
theorem hdX6_alike : yX6_alike.cls = RX6 ∧ yX6_alike.cls ≠ "java/lang/invoke/MethodHandle" ∧ yX6_alike.cls ≠ "java/lang/invoke/VarHandle" ∧ (parseMethodDescriptor yX6_alike.desc).map (fun d => d.parameters.length) = some 2 := by decide +kernel
theorem hdX6_settle : yX6_settle.cls = RX6 ∧ yX6_settle.cls ≠ "java/lang/invoke/MethodHandle" ∧ yX6_settle.cls ≠ "java/lang/invoke/VarHandle" ∧ (parseMethodDescriptor yX6_settle.desc).map (fun d => d.parameters.length) = some 0 := by decide +kernel
theorem hdX6_work : yX6_work.cls = RX6 ∧ yX6_work.cls ≠ "java/lang/invoke/MethodHandle" ∧ yX6_work.cls ≠ "java/lang/invoke/VarHandle" ∧ (parseMethodDescriptor yX6_work.desc).map (fun d => d.parameters.length) = some 2 := by decide +kernel
theorem hdX6_workAll : yX6_workAll.cls = RX6 ∧ yX6_workAll.cls ≠ "java/lang/invoke/MethodHandle" ∧ yX6_workAll.cls ≠ "java/lang/invoke/VarHandle" ∧ (parseMethodDescriptor yX6_workAll.desc).map (fun d => d.parameters.length) = some 0 := by decide +kernel
theorem hdX6_joined : yX6_joined.cls = RX6 ∧ yX6_joined.cls ≠ "java/lang/invoke/MethodHandle" ∧ yX6_joined.cls ≠ "java/lang/invoke/VarHandle" ∧ (parseMethodDescriptor yX6_joined.desc).map (fun d => d.parameters.length) = some 2 := by decide +kernel
theorem hdX6_first : yX6_first.cls = RX6 ∧ yX6_first.cls ≠ "java/lang/invoke/MethodHandle" ∧ yX6_first.cls ≠ "java/lang/invoke/VarHandle" ∧ (parseMethodDescriptor yX6_first.desc).map (fun d => d.parameters.length) = some 3 := by decide +kernel
theorem hdX6_kinds : yX6_kinds.cls = RX6 ∧ yX6_kinds.cls ≠ "java/lang/invoke/MethodHandle" ∧ yX6_kinds.cls ≠ "java/lang/invoke/VarHandle" ∧ (parseMethodDescriptor yX6_kinds.desc).map (fun d => d.parameters.length) = some 0 := by decide +kernel
theorem hdX6_wrongParts : yX6_wrongParts.cls = RX6 ∧ yX6_wrongParts.cls ≠ "java/lang/invoke/MethodHandle" ∧ yX6_wrongParts.cls ≠ "java/lang/invoke/VarHandle" ∧ (parseMethodDescriptor yX6_wrongParts.desc).map (fun d => d.parameters.length) = some 3 := by decide +kernel
theorem hdX6_make : yX6_make.cls = RX6 ∧ yX6_make.cls ≠ "java/lang/invoke/MethodHandle" ∧ yX6_make.cls ≠ "java/lang/invoke/VarHandle" ∧ (parseMethodDescriptor yX6_make.desc).map (fun d => d.parameters.length) = some 3 := by decide +kernel
theorem hdX6_equate : yX6_equate.cls = RX6 ∧ yX6_equate.cls ≠ "java/lang/invoke/MethodHandle" ∧ yX6_equate.cls ≠ "java/lang/invoke/VarHandle" ∧ (parseMethodDescriptor yX6_equate.desc).map (fun d => d.parameters.length) = some 2 := by decide +kernel
theorem hdX6_differ : yX6_differ.cls = RX6 ∧ yX6_differ.cls ≠ "java/lang/invoke/MethodHandle" ∧ yX6_differ.cls ≠ "java/lang/invoke/VarHandle" ∧ (parseMethodDescriptor yX6_differ.desc).map (fun d => d.parameters.length) = some 2 := by decide +kernel
theorem hdX6_open : yX6_open.cls = RX6 ∧ yX6_open.cls ≠ "java/lang/invoke/MethodHandle" ∧ yX6_open.cls ≠ "java/lang/invoke/VarHandle" ∧ (parseMethodDescriptor yX6_open.desc).map (fun d => d.parameters.length) = some 0 := by decide +kernel
theorem hdX6_close : yX6_close.cls = RX6 ∧ yX6_close.cls ≠ "java/lang/invoke/MethodHandle" ∧ yX6_close.cls ≠ "java/lang/invoke/VarHandle" ∧ (parseMethodDescriptor yX6_close.desc).map (fun d => d.parameters.length) = some 0 := by decide +kernel
theorem hdX6_equal : yX6_equal.cls = RX6 ∧ yX6_equal.cls ≠ "java/lang/invoke/MethodHandle" ∧ yX6_equal.cls ≠ "java/lang/invoke/VarHandle" ∧ (parseMethodDescriptor yX6_equal.desc).map (fun d => d.parameters.length) = some 2 := by decide +kernel
theorem hdX6_apart : yX6_apart.cls = RX6 ∧ yX6_apart.cls ≠ "java/lang/invoke/MethodHandle" ∧ yX6_apart.cls ≠ "java/lang/invoke/VarHandle" ∧ (parseMethodDescriptor yX6_apart.desc).map (fun d => d.parameters.length) = some 2 := by decide +kernel
theorem hdX6_consistent : yX6_consistent.cls = RX6 ∧ yX6_consistent.cls ≠ "java/lang/invoke/MethodHandle" ∧ yX6_consistent.cls ≠ "java/lang/invoke/VarHandle" ∧ (parseMethodDescriptor yX6_consistent.desc).map (fun d => d.parameters.length) = some 0 := by decide +kernel
theorem hdX6_leader : yX6_leader.cls = RX6 ∧ yX6_leader.cls ≠ "java/lang/invoke/MethodHandle" ∧ yX6_leader.cls ≠ "java/lang/invoke/VarHandle" ∧ (parseMethodDescriptor yX6_leader.desc).map (fun d => d.parameters.length) = some 1 := by decide +kernel
theorem hdX6_members : yX6_members.cls = RX6 ∧ yX6_members.cls ≠ "java/lang/invoke/MethodHandle" ∧ yX6_members.cls ≠ "java/lang/invoke/VarHandle" ∧ (parseMethodDescriptor yX6_members.desc).map (fun d => d.parameters.length) = some 1 := by decide +kernel
theorem hdX6_classes : yX6_classes.cls = RX6 ∧ yX6_classes.cls ≠ "java/lang/invoke/MethodHandle" ∧ yX6_classes.cls ≠ "java/lang/invoke/VarHandle" ∧ (parseMethodDescriptor yX6_classes.desc).map (fun d => d.parameters.length) = some 0 := by decide +kernel
theorem hdX6_find : yX6_find.cls = RX6 ∧ yX6_find.cls ≠ "java/lang/invoke/MethodHandle" ∧ yX6_find.cls ≠ "java/lang/invoke/VarHandle" ∧ (parseMethodDescriptor yX6_find.desc).map (fun d => d.parameters.length) = some 3 := by decide +kernel
theorem hdX6_since : yX6_since.cls = RX6 ∧ yX6_since.cls ≠ "java/lang/invoke/MethodHandle" ∧ yX6_since.cls ≠ "java/lang/invoke/VarHandle" ∧ (parseMethodDescriptor yX6_since.desc).map (fun d => d.parameters.length) = some 2 := by decide +kernel
theorem hdX6_explanation : yX6_explanation.cls = RX6 ∧ yX6_explanation.cls ≠ "java/lang/invoke/MethodHandle" ∧ yX6_explanation.cls ≠ "java/lang/invoke/VarHandle" ∧ (parseMethodDescriptor yX6_explanation.desc).map (fun d => d.parameters.length) = some 2 := by decide +kernel
theorem hdX6_needed : yX6_needed.cls = RX6 ∧ yX6_needed.cls ≠ "java/lang/invoke/MethodHandle" ∧ yX6_needed.cls ≠ "java/lang/invoke/VarHandle" ∧ (parseMethodDescriptor yX6_needed.desc).map (fun d => d.parameters.length) = some 2 := by decide +kernel
theorem hdX6_argument : yX6_argument.cls = RX6 ∧ yX6_argument.cls ≠ "java/lang/invoke/MethodHandle" ∧ yX6_argument.cls ≠ "java/lang/invoke/VarHandle" ∧ (parseMethodDescriptor yX6_argument.desc).map (fun d => d.parameters.length) = some 1 := by decide +kernel
theorem hdX6_sum : yX6_sum.cls = RX6 ∧ yX6_sum.cls ≠ "java/lang/invoke/MethodHandle" ∧ yX6_sum.cls ≠ "java/lang/invoke/VarHandle" ∧ (parseMethodDescriptor yX6_sum.desc).map (fun d => d.parameters.length) = some 1 := by decide +kernel
theorem hdX6_weigh : yX6_weigh.cls = RX6 ∧ yX6_weigh.cls ≠ "java/lang/invoke/MethodHandle" ∧ yX6_weigh.cls ≠ "java/lang/invoke/VarHandle" ∧ (parseMethodDescriptor yX6_weigh.desc).map (fun d => d.parameters.length) = some 0 := by decide +kernel
theorem hdX6_bestOf : yX6_bestOf.cls = RX6 ∧ yX6_bestOf.cls ≠ "java/lang/invoke/MethodHandle" ∧ yX6_bestOf.cls ≠ "java/lang/invoke/VarHandle" ∧ (parseMethodDescriptor yX6_bestOf.desc).map (fun d => d.parameters.length) = some 1 := by decide +kernel
theorem hdX6_weight : yX6_weight.cls = RX6 ∧ yX6_weight.cls ≠ "java/lang/invoke/MethodHandle" ∧ yX6_weight.cls ≠ "java/lang/invoke/VarHandle" ∧ (parseMethodDescriptor yX6_weight.desc).map (fun d => d.parameters.length) = some 1 := by decide +kernel
theorem hdX6_best : yX6_best.cls = RX6 ∧ yX6_best.cls ≠ "java/lang/invoke/MethodHandle" ∧ yX6_best.cls ≠ "java/lang/invoke/VarHandle" ∧ (parseMethodDescriptor yX6_best.desc).map (fun d => d.parameters.length) = some 1 := by decide +kernel
theorem hdX6_written : yX6_written.cls = RX6 ∧ yX6_written.cls ≠ "java/lang/invoke/MethodHandle" ∧ yX6_written.cls ≠ "java/lang/invoke/VarHandle" ∧ (parseMethodDescriptor yX6_written.desc).map (fun d => d.parameters.length) = some 2 := by decide +kernel
theorem hdX6_terms : yX6_terms.cls = RX6 ∧ yX6_terms.cls ≠ "java/lang/invoke/MethodHandle" ∧ yX6_terms.cls ≠ "java/lang/invoke/VarHandle" ∧ (parseMethodDescriptor yX6_terms.desc).map (fun d => d.parameters.length) = some 0 := by decide +kernel
theorem hdX6_equations : yX6_equations.cls = RX6 ∧ yX6_equations.cls ≠ "java/lang/invoke/MethodHandle" ∧ yX6_equations.cls ≠ "java/lang/invoke/VarHandle" ∧ (parseMethodDescriptor yX6_equations.desc).map (fun d => d.parameters.length) = some 0 := by decide +kernel
theorem gv_X5_52 {c1 : Cond} : GoodIn (c1 :: tbw) (wsV RX5 52 RX5 yX5_isShape (.code yX5_isShape cX5_isShape 4 (some .boolean) :: tbw)) := tb_in (tb_all (List.forall_mem_cons.mpr ⟨tw_141, List.forall_mem_cons.mpr ⟨tw_143, List.forall_mem_cons.mpr ⟨ts_0, List.forall_mem_cons.mpr ⟨tw_1, fun _ h => absurd h List.not_mem_nil⟩⟩⟩⟩) tw_144)
theorem gv_X5_112 {c1 : Cond} : GoodIn (c1 :: tbw) (wsV RX5 112 RX5 yX5_isTerm (.code yX5_isTerm cX5_isTerm 2 (some .boolean) :: tbw)) := tb_in (tb_all (List.forall_mem_cons.mpr ⟨tw_145, List.forall_mem_cons.mpr ⟨tw_147, List.forall_mem_cons.mpr ⟨ts_1, List.forall_mem_cons.mpr ⟨tw_1, fun _ h => absurd h List.not_mem_nil⟩⟩⟩⟩) tw_148)
theorem gv_X5_56 {c1 : Cond} : GoodIn (c1 :: tbw) (wsV RX5 56 RX3 yX3_numberOf (.code yX3_numberOf cX3_numberOf 5 (some .int) :: tbw)) := tb_in (tb_all (List.forall_mem_cons.mpr ⟨tw_149, List.forall_mem_cons.mpr ⟨tw_150, List.forall_mem_cons.mpr ⟨tw_151, List.forall_mem_cons.mpr ⟨tw_2, fun _ h => absurd h List.not_mem_nil⟩⟩⟩⟩) tw_152)
theorem gv_X5_64 {c1 : Cond} : GoodIn (c1 :: tbw) (wsV RX5 64 RX3 yX3_add (.code yX3_add cX3_add 4 (some .int) :: tbw)) := tb_in (tb_all (List.forall_mem_cons.mpr ⟨tw_153, List.forall_mem_cons.mpr ⟨tw_154, List.forall_mem_cons.mpr ⟨tw_155, List.forall_mem_cons.mpr ⟨tw_2, fun _ h => absurd h List.not_mem_nil⟩⟩⟩⟩) tw_156)
theorem gv_X5_67 {c1 : Cond} : GoodIn (c1 :: tbw) (wsV RX5 67 RX5 yX5_settleCurrent (.code yX5_settleCurrent cX5_settleCurrent 1 none :: tbw)) := tb_in (tb_all (List.forall_mem_cons.mpr ⟨tw_157, List.forall_mem_cons.mpr ⟨tw_159, List.forall_mem_cons.mpr ⟨ts_2, List.forall_mem_cons.mpr ⟨tw_1, fun _ h => absurd h List.not_mem_nil⟩⟩⟩⟩) tw_160)
theorem gv_X5_123 {c1 : Cond} : GoodIn (c1 :: tbw) (wsS RX5 123 yX5_allBelow (.code yX5_allBelow cX5_allBelow 1 (some .int) :: tbw)) := tb_in (tb_all (List.forall_mem_cons.mpr ⟨tw_161, List.forall_mem_cons.mpr ⟨tw_162, List.forall_mem_cons.mpr ⟨tw_1, fun _ h => absurd h List.not_mem_nil⟩⟩⟩) tw_163)
theorem gv_X5_145 {c1 : Cond} : GoodIn (c1 :: tbw) (wsV RX5 145 RX2 yX2_settle (.code yX2_settle cX2_settle 6 none :: tbw)) := tb_in (tb_all (List.forall_mem_cons.mpr ⟨tw_164, List.forall_mem_cons.mpr ⟨tw_165, List.forall_mem_cons.mpr ⟨tw_166, List.forall_mem_cons.mpr ⟨tw_5, fun _ h => absurd h List.not_mem_nil⟩⟩⟩⟩) tw_167)
theorem gv_X2_46 {c1 : Cond} : GoodIn (c1 :: tbw) (wsV RX2 46 RX2 yX2_merge (.code yX2_merge cX2_merge 7 none :: tbw)) := tb_in (tb_all (List.forall_mem_cons.mpr ⟨tw_168, List.forall_mem_cons.mpr ⟨tw_170, List.forall_mem_cons.mpr ⟨ts_3, List.forall_mem_cons.mpr ⟨tw_5, fun _ h => absurd h List.not_mem_nil⟩⟩⟩⟩) tw_171)
theorem gv_X2_50 {c1 : Cond} : GoodIn (c1 :: tbw) (wsV RX2 50 RX2 yX2_mergeCongruent (.code yX2_mergeCongruent cX2_mergeCongruent 5 (some .boolean) :: tbw)) := tb_in (tb_all (List.forall_mem_cons.mpr ⟨tw_178, List.forall_mem_cons.mpr ⟨tw_180, List.forall_mem_cons.mpr ⟨ts_4, List.forall_mem_cons.mpr ⟨tw_5, fun _ h => absurd h List.not_mem_nil⟩⟩⟩⟩) tw_181)
theorem gv_X2_30 {c1 : Cond} : GoodIn (c1 :: tbw) (wsV RX2 30 RX2 yX2_joins (.code yX2_joins cX2_joins 3 (some .boolean) :: tbw)) := tb_in (tb_all (List.forall_mem_cons.mpr ⟨tw_182, List.forall_mem_cons.mpr ⟨tw_183, List.forall_mem_cons.mpr ⟨tw_184, List.forall_mem_cons.mpr ⟨tw_5, fun _ h => absurd h List.not_mem_nil⟩⟩⟩⟩) tw_185)
theorem gv_X2_54 {c1 : Cond} : GoodIn (c1 :: tbw) (wsV RX2 54 RX2 yX2_congruent (.code yX2_congruent cX2_congruent 4 (some .boolean) :: tbw)) := tb_in (tb_all (List.forall_mem_cons.mpr ⟨tw_186, List.forall_mem_cons.mpr ⟨tw_188, List.forall_mem_cons.mpr ⟨ts_5, List.forall_mem_cons.mpr ⟨tw_5, fun _ h => absurd h List.not_mem_nil⟩⟩⟩⟩) tw_189)
theorem gv_X2_58 {c1 : Cond} : GoodIn (c1 :: tbw) (wsV RX2 58 RX2 yX2_fits (.code yX2_fits cX2_fits 6 (some .boolean) :: tbw)) := tb_in (tb_all (List.forall_mem_cons.mpr ⟨tw_190, List.forall_mem_cons.mpr ⟨tw_191, List.forall_mem_cons.mpr ⟨tw_192, List.forall_mem_cons.mpr ⟨tw_5, fun _ h => absurd h List.not_mem_nil⟩⟩⟩⟩) tw_193)
theorem gv_X2_23 {c1 : Cond} : GoodIn (c1 :: tbw) (wsV RX2 23 RX2 yX2_sameArgument (.code yX2_sameArgument cX2_sameArgument 3 (some .boolean) :: tbw)) := tb_in (tb_all (List.forall_mem_cons.mpr ⟨tw_194, List.forall_mem_cons.mpr ⟨tw_196, List.forall_mem_cons.mpr ⟨ts_6, List.forall_mem_cons.mpr ⟨tw_5, fun _ h => absurd h List.not_mem_nil⟩⟩⟩⟩) tw_197)
theorem gv_X5_70 {c1 : Cond} : GoodIn (c1 :: tbw) (wsV RX5 70 RX5 yX5_areTerms (.code yX5_areTerms cX5_areTerms 3 (some .boolean) :: tbw)) := tb_in (tb_all (List.forall_mem_cons.mpr ⟨tw_202, List.forall_mem_cons.mpr ⟨tw_204, List.forall_mem_cons.mpr ⟨ts_7, List.forall_mem_cons.mpr ⟨tw_1, fun _ h => absurd h List.not_mem_nil⟩⟩⟩⟩) tw_205)
theorem gv_X5_74 {c1 : Cond} : GoodIn (c1 :: tbw) (wsV RX5 74 RX1 yX1_isFull (.code yX1_isFull cX1_isFull 1 (some .boolean) :: tbw)) := tb_in (tb_all (List.forall_mem_cons.mpr ⟨tw_206, List.forall_mem_cons.mpr ⟨tw_207, List.forall_mem_cons.mpr ⟨tw_208, List.forall_mem_cons.mpr ⟨tw_3, fun _ h => absurd h List.not_mem_nil⟩⟩⟩⟩) tw_209)
theorem gv_X5_78 {c1 : Cond} : GoodIn (c1 :: tbw) (wsV RX5 78 RX2 yX2_classCount (.code yX2_classCount cX2_classCount 4 (some .int) :: tbw)) := tb_in (tb_all (List.forall_mem_cons.mpr ⟨tw_210, List.forall_mem_cons.mpr ⟨tw_211, List.forall_mem_cons.mpr ⟨tw_212, List.forall_mem_cons.mpr ⟨tw_5, fun _ h => absurd h List.not_mem_nil⟩⟩⟩⟩) tw_213)
theorem gv_X5_82 {c1 : Cond} : GoodIn (c1 :: tbw) (wsV RX5 82 RX1 yX1_add (.code yX1_add cX1_add 3 (some .int) :: tbw)) := tb_in (tb_all (List.forall_mem_cons.mpr ⟨tw_214, List.forall_mem_cons.mpr ⟨tw_215, List.forall_mem_cons.mpr ⟨tw_216, List.forall_mem_cons.mpr ⟨tw_3, fun _ h => absurd h List.not_mem_nil⟩⟩⟩⟩) tw_217)
theorem gv_X5_89 {c1 : Cond} : GoodIn (c1 :: tbw) (wsV RX5 89 RX0 yX0_push (.code yX0_push cX0_push 4 none :: tbw)) := tb_in (tb_all (List.forall_mem_cons.mpr ⟨tw_226, List.forall_mem_cons.mpr ⟨tw_227, List.forall_mem_cons.mpr ⟨tw_228, List.forall_mem_cons.mpr ⟨tw_4, fun _ h => absurd h List.not_mem_nil⟩⟩⟩⟩) tw_229)
theorem gv_X5_103 {c1 : Cond} : GoodIn (c1 :: tbw) (wsV RX5 103 RX2 yX2_joins (.code yX2_joins cX2_joins 3 (some .boolean) :: tbw)) := tb_in (tb_all (List.forall_mem_cons.mpr ⟨tw_238, List.forall_mem_cons.mpr ⟨tw_183, List.forall_mem_cons.mpr ⟨tw_184, List.forall_mem_cons.mpr ⟨tw_5, fun _ h => absurd h List.not_mem_nil⟩⟩⟩⟩) tw_185)
theorem gv_X5_119 {c1 : Cond} : GoodIn (c1 :: tbw) (wsV RX5 119 RX2 yX2_fits (.code yX2_fits cX2_fits 6 (some .boolean) :: tbw)) := tb_in (tb_all (List.forall_mem_cons.mpr ⟨tw_263, List.forall_mem_cons.mpr ⟨tw_191, List.forall_mem_cons.mpr ⟨tw_192, List.forall_mem_cons.mpr ⟨tw_5, fun _ h => absurd h List.not_mem_nil⟩⟩⟩⟩) tw_193)
theorem gv_X5_126 {c1 : Cond} : GoodIn (c1 :: tbw) (wsV RX5 126 RX5 yX5_followsFrom (.code yX5_followsFrom cX5_followsFrom 4 (some .boolean) :: tbw)) := tb_in (tb_all (List.forall_mem_cons.mpr ⟨tw_268, List.forall_mem_cons.mpr ⟨tw_270, List.forall_mem_cons.mpr ⟨ts_8, List.forall_mem_cons.mpr ⟨tw_1, fun _ h => absurd h List.not_mem_nil⟩⟩⟩⟩) tw_271)
theorem gv_X5_129 {c1 : Cond} : GoodIn (c1 :: tbw) (wsV RX5 129 RX4 yX4_weigh (.code yX4_weigh cX4_weigh 5 none :: tbw)) := tb_in (tb_all (List.forall_mem_cons.mpr ⟨tw_284, List.forall_mem_cons.mpr ⟨tw_285, List.forall_mem_cons.mpr ⟨tw_286, List.forall_mem_cons.mpr ⟨tw_6, fun _ h => absurd h List.not_mem_nil⟩⟩⟩⟩) tw_287)
theorem gv_X4_29 {c1 : Cond} : GoodIn (c1 :: tbw) (wsV RX4 29 RX4 yX4_lower (.code yX4_lower cX4_lower 7 (some .boolean) :: tbw)) := tb_in (tb_all (List.forall_mem_cons.mpr ⟨tw_292, List.forall_mem_cons.mpr ⟨tw_294, List.forall_mem_cons.mpr ⟨ts_9, List.forall_mem_cons.mpr ⟨tw_6, fun _ h => absurd h List.not_mem_nil⟩⟩⟩⟩) tw_295)
theorem gv_X4_33 {c1 : Cond} : GoodIn (c1 :: tbw) (wsV RX4 33 RX4 yX4_costOf (.code yX4_costOf cX4_costOf 4 (some .long) :: tbw)) := tb_in (tb_all (List.forall_mem_cons.mpr ⟨tw_296, List.forall_mem_cons.mpr ⟨tw_298, List.forall_mem_cons.mpr ⟨ts_10, List.forall_mem_cons.mpr ⟨tw_6, fun _ h => absurd h List.not_mem_nil⟩⟩⟩⟩) tw_299)
theorem gv_X4_46 {c1 : Cond} : GoodIn (c1 :: tbw) (wsV RX4 46 RX4 yX4_ofArgument (.code yX4_ofArgument cX4_ofArgument 3 (some .long) :: tbw)) := tb_in (tb_all (List.forall_mem_cons.mpr ⟨tw_300, List.forall_mem_cons.mpr ⟨tw_302, List.forall_mem_cons.mpr ⟨ts_11, List.forall_mem_cons.mpr ⟨tw_6, fun _ h => absurd h List.not_mem_nil⟩⟩⟩⟩) tw_303)
theorem gv_X4_53 {c1 : Cond} : GoodIn (c1 :: tbw) (wsV RX4 53 RX4 yX4_ofTerm (.code yX4_ofTerm cX4_ofTerm 3 (some .long) :: tbw)) := tb_in (tb_all (List.forall_mem_cons.mpr ⟨tw_304, List.forall_mem_cons.mpr ⟨tw_305, List.forall_mem_cons.mpr ⟨tw_306, List.forall_mem_cons.mpr ⟨tw_6, fun _ h => absurd h List.not_mem_nil⟩⟩⟩⟩) tw_307)
theorem gv_X5_133 {c1 : Cond} : GoodIn (c1 :: tbw) (wsV RX5 133 RX4 yX4_ofTerm (.code yX4_ofTerm cX4_ofTerm 3 (some .long) :: tbw)) := tb_in (tb_all (List.forall_mem_cons.mpr ⟨tw_308, List.forall_mem_cons.mpr ⟨tw_305, List.forall_mem_cons.mpr ⟨tw_306, List.forall_mem_cons.mpr ⟨tw_6, fun _ h => absurd h List.not_mem_nil⟩⟩⟩⟩) tw_307)
theorem gv_X5_137 {c1 : Cond} : GoodIn (c1 :: tbw) (wsV RX5 137 RX4 yX4_lightest (.code yX4_lightest cX4_lightest 5 (some .int) :: tbw)) := tb_in (tb_all (List.forall_mem_cons.mpr ⟨tw_313, List.forall_mem_cons.mpr ⟨tw_314, List.forall_mem_cons.mpr ⟨tw_315, List.forall_mem_cons.mpr ⟨tw_6, fun _ h => absurd h List.not_mem_nil⟩⟩⟩⟩) tw_316)
theorem gv_X4_56 {c1 : Cond} : GoodIn (c1 :: tbw) (wsV RX4 56 RX2 yX2_joins (.code yX2_joins cX2_joins 3 (some .boolean) :: tbw)) := tb_in (tb_all (List.forall_mem_cons.mpr ⟨tw_317, List.forall_mem_cons.mpr ⟨tw_183, List.forall_mem_cons.mpr ⟨tw_184, List.forall_mem_cons.mpr ⟨tw_5, fun _ h => absurd h List.not_mem_nil⟩⟩⟩⟩) tw_185)
theorem gv_X5_141 {c1 : Cond} : GoodIn (c1 :: tbw) (wsV RX5 141 RX4 yX4_symbolAt (.code yX4_symbolAt cX4_symbolAt 12 (some .int) :: tbw)) := tb_in (tb_all (List.forall_mem_cons.mpr ⟨tw_322, List.forall_mem_cons.mpr ⟨tw_323, List.forall_mem_cons.mpr ⟨tw_324, List.forall_mem_cons.mpr ⟨tw_6, fun _ h => absurd h List.not_mem_nil⟩⟩⟩⟩) tw_325)
theorem gv_X4_60 {c1 : Cond} : GoodIn (c1 :: tbw) (wsV RX4 60 RX4 yX4_lightest (.code yX4_lightest cX4_lightest 5 (some .int) :: tbw)) := tb_in (tb_all (List.forall_mem_cons.mpr ⟨tw_326, List.forall_mem_cons.mpr ⟨tw_314, List.forall_mem_cons.mpr ⟨tw_315, List.forall_mem_cons.mpr ⟨tw_6, fun _ h => absurd h List.not_mem_nil⟩⟩⟩⟩) tw_316)
theorem gv_X6_81 {c1 : Cond} : GoodIn (c1 :: tbw) (wsV RX6 81 RX6 yX6_wrongParts (.code yX6_wrongParts cX6_wrongParts 5 (some .boolean) :: tbw)) := tb_in (tb_all (List.forall_mem_cons.mpr ⟨tw_394, List.forall_mem_cons.mpr ⟨tw_396, List.forall_mem_cons.mpr ⟨ts_12, List.forall_mem_cons.mpr ⟨tw_7, fun _ h => absurd h List.not_mem_nil⟩⟩⟩⟩) tw_397)
theorem gv_X6_77 {c1 : Cond} : GoodIn (c1 :: tbw) (wsV RX6 77 RX6 yX6_isTerm (.code yX6_isTerm cX6_isTerm 2 (some .boolean) :: tbw)) := tb_in (tb_all (List.forall_mem_cons.mpr ⟨tw_398, List.forall_mem_cons.mpr ⟨tw_400, List.forall_mem_cons.mpr ⟨ts_13, List.forall_mem_cons.mpr ⟨tw_7, fun _ h => absurd h List.not_mem_nil⟩⟩⟩⟩) tw_401)
theorem gv_X6_85 {c1 : Cond} : GoodIn (c1 :: tbw) (wsV RX6 85 RX6 yX6_workAll (.code yX6_workAll cX6_workAll 1 none :: tbw)) := tb_in (tb_all (List.forall_mem_cons.mpr ⟨tw_406, List.forall_mem_cons.mpr ⟨tw_408, List.forall_mem_cons.mpr ⟨ts_14, List.forall_mem_cons.mpr ⟨tw_7, fun _ h => absurd h List.not_mem_nil⟩⟩⟩⟩) tw_409)
theorem gv_X6_71 {c1 : Cond} : GoodIn (c1 :: tbw) (wsV RX6 71 RX6 yX6_work (.code yX6_work cX6_work 4 none :: tbw)) := tb_in (tb_all (List.forall_mem_cons.mpr ⟨tw_410, List.forall_mem_cons.mpr ⟨tw_412, List.forall_mem_cons.mpr ⟨ts_15, List.forall_mem_cons.mpr ⟨tw_7, fun _ h => absurd h List.not_mem_nil⟩⟩⟩⟩) tw_413)
theorem gv_X6_62 {c1 : Cond} : GoodIn (c1 :: tbw) (wsV RX6 62 RX6 yX6_alone (.code yX6_alone cX6_alone 2 none :: tbw)) := tb_in (tb_all (List.forall_mem_cons.mpr ⟨tw_414, List.forall_mem_cons.mpr ⟨tw_416, List.forall_mem_cons.mpr ⟨ts_16, List.forall_mem_cons.mpr ⟨tw_7, fun _ h => absurd h List.not_mem_nil⟩⟩⟩⟩) tw_417)
theorem gv_X6_58 {c1 : Cond} : GoodIn (c1 :: tbw) (wsV RX6 58 RX6 yX6_join (.code yX6_join cX6_join 6 none :: tbw)) := tb_in (tb_all (List.forall_mem_cons.mpr ⟨tw_418, List.forall_mem_cons.mpr ⟨tw_420, List.forall_mem_cons.mpr ⟨ts_17, List.forall_mem_cons.mpr ⟨tw_7, fun _ h => absurd h List.not_mem_nil⟩⟩⟩⟩) tw_421)
theorem gv_X6_68 {c1 : Cond} : GoodIn (c1 :: tbw) (wsV RX6 68 RX6 yX6_settle (.code yX6_settle cX6_settle 5 none :: tbw)) := tb_in (tb_all (List.forall_mem_cons.mpr ⟨tw_422, List.forall_mem_cons.mpr ⟨tw_424, List.forall_mem_cons.mpr ⟨ts_18, List.forall_mem_cons.mpr ⟨tw_7, fun _ h => absurd h List.not_mem_nil⟩⟩⟩⟩) tw_425)
theorem gv_X6_55 {c1 : Cond} : GoodIn (c1 :: tbw) (wsV RX6 55 RX6 yX6_alike (.code yX6_alike cX6_alike 3 (some .boolean) :: tbw)) := tb_in (tb_all (List.forall_mem_cons.mpr ⟨tw_426, List.forall_mem_cons.mpr ⟨tw_428, List.forall_mem_cons.mpr ⟨ts_19, List.forall_mem_cons.mpr ⟨tw_7, fun _ h => absurd h List.not_mem_nil⟩⟩⟩⟩) tw_429)
theorem gv_X6_51 {c1 : Cond} : GoodIn (c1 :: tbw) (wsV RX6 51 RX6 yX6_sameArgument (.code yX6_sameArgument cX6_sameArgument 3 (some .boolean) :: tbw)) := tb_in (tb_all (List.forall_mem_cons.mpr ⟨tw_430, List.forall_mem_cons.mpr ⟨tw_432, List.forall_mem_cons.mpr ⟨ts_20, List.forall_mem_cons.mpr ⟨tw_7, fun _ h => absurd h List.not_mem_nil⟩⟩⟩⟩) tw_433)
theorem gv_X6_88 {c1 : Cond} : GoodIn (c1 :: tbw) (wsV RX6 88 RX6 yX6_kinds (.code yX6_kinds cX6_kinds 3 (some .int) :: tbw)) := tb_in (tb_all (List.forall_mem_cons.mpr ⟨tw_434, List.forall_mem_cons.mpr ⟨tw_436, List.forall_mem_cons.mpr ⟨ts_21, List.forall_mem_cons.mpr ⟨tw_7, fun _ h => absurd h List.not_mem_nil⟩⟩⟩⟩) tw_437)
theorem gv_X6_74 {c1 : Cond} : GoodIn (c1 :: tbw) (wsV RX6 74 RX6 yX6_joined (.code yX6_joined cX6_joined 3 (some .boolean) :: tbw)) := tb_in (tb_all (List.forall_mem_cons.mpr ⟨tw_454, List.forall_mem_cons.mpr ⟨tw_456, List.forall_mem_cons.mpr ⟨ts_22, List.forall_mem_cons.mpr ⟨tw_7, fun _ h => absurd h List.not_mem_nil⟩⟩⟩⟩) tw_457)
theorem gv_X6_98 {c1 : Cond} : GoodIn (c1 :: tbw) (wsV RX6 98 RX6 yX6_first (.code yX6_first cX6_first 5 (some .int) :: tbw)) := tb_in (tb_all (List.forall_mem_cons.mpr ⟨tw_486, List.forall_mem_cons.mpr ⟨tw_488, List.forall_mem_cons.mpr ⟨ts_23, List.forall_mem_cons.mpr ⟨tw_7, fun _ h => absurd h List.not_mem_nil⟩⟩⟩⟩) tw_489)
theorem gv_X6_109 {c1 : Cond} : GoodIn (c1 :: tbw) (wsV RX6 109 RX6 yX6_weigh (.code yX6_weigh cX6_weigh 7 none :: tbw)) := tb_in (tb_all (List.forall_mem_cons.mpr ⟨tw_502, List.forall_mem_cons.mpr ⟨tw_504, List.forall_mem_cons.mpr ⟨ts_24, List.forall_mem_cons.mpr ⟨tw_7, fun _ h => absurd h List.not_mem_nil⟩⟩⟩⟩) tw_505)
theorem gv_X6_106 {c1 : Cond} : GoodIn (c1 :: tbw) (wsV RX6 106 RX6 yX6_sum (.code yX6_sum cX6_sum 5 (some .long) :: tbw)) := tb_in (tb_all (List.forall_mem_cons.mpr ⟨tw_506, List.forall_mem_cons.mpr ⟨tw_508, List.forall_mem_cons.mpr ⟨ts_25, List.forall_mem_cons.mpr ⟨tw_7, fun _ h => absurd h List.not_mem_nil⟩⟩⟩⟩) tw_509)
theorem gv_X6_102 {c1 : Cond} : GoodIn (c1 :: tbw) (wsV RX6 102 RX6 yX6_argument (.code yX6_argument cX6_argument 2 (some .long) :: tbw)) := tb_in (tb_all (List.forall_mem_cons.mpr ⟨tw_510, List.forall_mem_cons.mpr ⟨tw_512, List.forall_mem_cons.mpr ⟨ts_26, List.forall_mem_cons.mpr ⟨tw_7, fun _ h => absurd h List.not_mem_nil⟩⟩⟩⟩) tw_513)
theorem gv_X6_112 {c1 : Cond} : GoodIn (c1 :: tbw) (wsV RX6 112 RX6 yX6_bestOf (.code yX6_bestOf cX6_bestOf 4 (some .int) :: tbw)) := tb_in (tb_all (List.forall_mem_cons.mpr ⟨tw_518, List.forall_mem_cons.mpr ⟨tw_520, List.forall_mem_cons.mpr ⟨ts_27, List.forall_mem_cons.mpr ⟨tw_7, fun _ h => absurd h List.not_mem_nil⟩⟩⟩⟩) tw_521)
