section
-- ===== PART A: goes FIRST, ahead of the names: the tables' words, and 'selects' of the private methods out of them =====
/-- a private method of a class that the tables say can be made, by its rows of tables_1 -/
def lw_okq (q : MethodName × Nat) : Prop := (q.1.cls ≠ "java/lang/invoke/MethodHandle" ∧ q.1.cls ≠ "java/lang/invoke/VarHandle") ∧ Cond.instantiable q.1.cls q.2 ∈ tables_1 ∧ Cond.privateMethod q.1 ∈ tables_1 ∧ Cond.instanceMethod q.1 ∈ tables_1
theorem lw_p0 : lw_okq (⟨"CongruenceLedger", "isShape", "(III)Z"⟩, 7) := ⟨⟨by decide +kernel, by decide +kernel⟩, List.mem_of_getElem? (i := 11) (by decide +kernel), List.mem_of_getElem? (i := 142) (by decide +kernel), List.mem_of_getElem? (i := 143) (by decide +kernel)⟩
theorem lw_p1 : lw_okq (⟨"CongruenceLedger", "isTerm", "(I)Z"⟩, 7) := ⟨⟨by decide +kernel, by decide +kernel⟩, List.mem_of_getElem? (i := 11) (by decide +kernel), List.mem_of_getElem? (i := 146) (by decide +kernel), List.mem_of_getElem? (i := 147) (by decide +kernel)⟩
theorem lw_p2 : lw_okq (⟨"CongruenceLedger", "settleCurrent", "()V"⟩, 7) := ⟨⟨by decide +kernel, by decide +kernel⟩, List.mem_of_getElem? (i := 11) (by decide +kernel), List.mem_of_getElem? (i := 158) (by decide +kernel), List.mem_of_getElem? (i := 159) (by decide +kernel)⟩
theorem lw_p3 : lw_okq (⟨"CongruenceLedger$Partition", "merge", "(III)V"⟩, 1) := ⟨⟨by decide +kernel, by decide +kernel⟩, List.mem_of_getElem? (i := 93) (by decide +kernel), List.mem_of_getElem? (i := 169) (by decide +kernel), List.mem_of_getElem? (i := 170) (by decide +kernel)⟩
theorem lw_p4 : lw_okq (⟨"CongruenceLedger$Partition", "mergeCongruent", "(LCongruenceLedger$TermTable;)Z"⟩, 1) := ⟨⟨by decide +kernel, by decide +kernel⟩, List.mem_of_getElem? (i := 93) (by decide +kernel), List.mem_of_getElem? (i := 179) (by decide +kernel), List.mem_of_getElem? (i := 180) (by decide +kernel)⟩
theorem lw_p5 : lw_okq (⟨"CongruenceLedger$Partition", "congruent", "(LCongruenceLedger$TermTable;II)Z"⟩, 1) := ⟨⟨by decide +kernel, by decide +kernel⟩, List.mem_of_getElem? (i := 93) (by decide +kernel), List.mem_of_getElem? (i := 187) (by decide +kernel), List.mem_of_getElem? (i := 188) (by decide +kernel)⟩
theorem lw_p6 : lw_okq (⟨"CongruenceLedger$Partition", "sameArgument", "(II)Z"⟩, 1) := ⟨⟨by decide +kernel, by decide +kernel⟩, List.mem_of_getElem? (i := 93) (by decide +kernel), List.mem_of_getElem? (i := 195) (by decide +kernel), List.mem_of_getElem? (i := 196) (by decide +kernel)⟩
theorem lw_p7 : lw_okq (⟨"CongruenceLedger", "areTerms", "(II)Z"⟩, 7) := ⟨⟨by decide +kernel, by decide +kernel⟩, List.mem_of_getElem? (i := 11) (by decide +kernel), List.mem_of_getElem? (i := 203) (by decide +kernel), List.mem_of_getElem? (i := 204) (by decide +kernel)⟩
theorem lw_p8 : lw_okq (⟨"CongruenceLedger", "followsFrom", "(III)Z"⟩, 7) := ⟨⟨by decide +kernel, by decide +kernel⟩, List.mem_of_getElem? (i := 11) (by decide +kernel), List.mem_of_getElem? (i := 269) (by decide +kernel), List.mem_of_getElem? (i := 270) (by decide +kernel)⟩
theorem lw_p9 : lw_okq (⟨"CongruenceLedger$WeightTable", "lower", "(LCongruenceLedger$TermTable;LCongruenceLedger$Partition;)Z"⟩, 1) := ⟨⟨by decide +kernel, by decide +kernel⟩, List.mem_of_getElem? (i := 105) (by decide +kernel), List.mem_of_getElem? (i := 293) (by decide +kernel), List.mem_of_getElem? (i := 294) (by decide +kernel)⟩
theorem lw_p10 : lw_okq (⟨"CongruenceLedger$WeightTable", "costOf", "(LCongruenceLedger$TermTable;LCongruenceLedger$Partition;I)J"⟩, 1) := ⟨⟨by decide +kernel, by decide +kernel⟩, List.mem_of_getElem? (i := 105) (by decide +kernel), List.mem_of_getElem? (i := 297) (by decide +kernel), List.mem_of_getElem? (i := 298) (by decide +kernel)⟩
theorem lw_p11 : lw_okq (⟨"CongruenceLedger$WeightTable", "ofArgument", "(LCongruenceLedger$Partition;I)J"⟩, 1) := ⟨⟨by decide +kernel, by decide +kernel⟩, List.mem_of_getElem? (i := 105) (by decide +kernel), List.mem_of_getElem? (i := 301) (by decide +kernel), List.mem_of_getElem? (i := 302) (by decide +kernel)⟩
theorem lw_p12 : lw_okq (⟨"CongruenceLedgerModel", "wrongParts", "(III)Z"⟩, 16) := ⟨⟨by decide +kernel, by decide +kernel⟩, List.mem_of_getElem? (i := 336) (by decide +kernel), List.mem_of_getElem? (i := 395) (by decide +kernel), List.mem_of_getElem? (i := 396) (by decide +kernel)⟩
theorem lw_p13 : lw_okq (⟨"CongruenceLedgerModel", "isTerm", "(I)Z"⟩, 16) := ⟨⟨by decide +kernel, by decide +kernel⟩, List.mem_of_getElem? (i := 336) (by decide +kernel), List.mem_of_getElem? (i := 399) (by decide +kernel), List.mem_of_getElem? (i := 400) (by decide +kernel)⟩
theorem lw_p14 : lw_okq (⟨"CongruenceLedgerModel", "workAll", "()V"⟩, 16) := ⟨⟨by decide +kernel, by decide +kernel⟩, List.mem_of_getElem? (i := 336) (by decide +kernel), List.mem_of_getElem? (i := 407) (by decide +kernel), List.mem_of_getElem? (i := 408) (by decide +kernel)⟩
theorem lw_p15 : lw_okq (⟨"CongruenceLedgerModel", "work", "(II)V"⟩, 16) := ⟨⟨by decide +kernel, by decide +kernel⟩, List.mem_of_getElem? (i := 336) (by decide +kernel), List.mem_of_getElem? (i := 411) (by decide +kernel), List.mem_of_getElem? (i := 412) (by decide +kernel)⟩
def lw_privs_1 : List (MethodName × Nat) := [(⟨"CongruenceLedger", "isShape", "(III)Z"⟩, 7), (⟨"CongruenceLedger", "isTerm", "(I)Z"⟩, 7), (⟨"CongruenceLedger", "settleCurrent", "()V"⟩, 7), (⟨"CongruenceLedger$Partition", "merge", "(III)V"⟩, 1), (⟨"CongruenceLedger$Partition", "mergeCongruent", "(LCongruenceLedger$TermTable;)Z"⟩, 1), (⟨"CongruenceLedger$Partition", "congruent", "(LCongruenceLedger$TermTable;II)Z"⟩, 1), (⟨"CongruenceLedger$Partition", "sameArgument", "(II)Z"⟩, 1), (⟨"CongruenceLedger", "areTerms", "(II)Z"⟩, 7), (⟨"CongruenceLedger", "followsFrom", "(III)Z"⟩, 7), (⟨"CongruenceLedger$WeightTable", "lower", "(LCongruenceLedger$TermTable;LCongruenceLedger$Partition;)Z"⟩, 1), (⟨"CongruenceLedger$WeightTable", "costOf", "(LCongruenceLedger$TermTable;LCongruenceLedger$Partition;I)J"⟩, 1), (⟨"CongruenceLedger$WeightTable", "ofArgument", "(LCongruenceLedger$Partition;I)J"⟩, 1), (⟨"CongruenceLedgerModel", "wrongParts", "(III)Z"⟩, 16), (⟨"CongruenceLedgerModel", "isTerm", "(I)Z"⟩, 16), (⟨"CongruenceLedgerModel", "workAll", "()V"⟩, 16), (⟨"CongruenceLedgerModel", "work", "(II)V"⟩, 16)]
theorem lw_r1 : ∀ q ∈ lw_privs_1, lw_okq q := List.forall_mem_cons.mpr ⟨lw_p0, List.forall_mem_cons.mpr ⟨lw_p1, List.forall_mem_cons.mpr ⟨lw_p2, List.forall_mem_cons.mpr ⟨lw_p3, List.forall_mem_cons.mpr ⟨lw_p4, List.forall_mem_cons.mpr ⟨lw_p5, List.forall_mem_cons.mpr ⟨lw_p6, List.forall_mem_cons.mpr ⟨lw_p7, List.forall_mem_cons.mpr ⟨lw_p8, List.forall_mem_cons.mpr ⟨lw_p9, List.forall_mem_cons.mpr ⟨lw_p10, List.forall_mem_cons.mpr ⟨lw_p11, List.forall_mem_cons.mpr ⟨lw_p12, List.forall_mem_cons.mpr ⟨lw_p13, List.forall_mem_cons.mpr ⟨lw_p14, List.forall_mem_cons.mpr ⟨lw_p15, fun _ h => absurd h List.not_mem_nil⟩⟩⟩⟩⟩⟩⟩⟩⟩⟩⟩⟩⟩⟩⟩⟩
theorem lw_p16 : lw_okq (⟨"CongruenceLedgerModel", "alone", "()V"⟩, 16) := ⟨⟨by decide +kernel, by decide +kernel⟩, List.mem_of_getElem? (i := 336) (by decide +kernel), List.mem_of_getElem? (i := 415) (by decide +kernel), List.mem_of_getElem? (i := 416) (by decide +kernel)⟩
theorem lw_p17 : lw_okq (⟨"CongruenceLedgerModel", "join", "(II)V"⟩, 16) := ⟨⟨by decide +kernel, by decide +kernel⟩, List.mem_of_getElem? (i := 336) (by decide +kernel), List.mem_of_getElem? (i := 419) (by decide +kernel), List.mem_of_getElem? (i := 420) (by decide +kernel)⟩
theorem lw_p18 : lw_okq (⟨"CongruenceLedgerModel", "settle", "()V"⟩, 16) := ⟨⟨by decide +kernel, by decide +kernel⟩, List.mem_of_getElem? (i := 336) (by decide +kernel), List.mem_of_getElem? (i := 423) (by decide +kernel), List.mem_of_getElem? (i := 424) (by decide +kernel)⟩
theorem lw_p19 : lw_okq (⟨"CongruenceLedgerModel", "alike", "(II)Z"⟩, 16) := ⟨⟨by decide +kernel, by decide +kernel⟩, List.mem_of_getElem? (i := 336) (by decide +kernel), List.mem_of_getElem? (i := 427) (by decide +kernel), List.mem_of_getElem? (i := 428) (by decide +kernel)⟩
theorem lw_p20 : lw_okq (⟨"CongruenceLedgerModel", "sameArgument", "(II)Z"⟩, 16) := ⟨⟨by decide +kernel, by decide +kernel⟩, List.mem_of_getElem? (i := 336) (by decide +kernel), List.mem_of_getElem? (i := 431) (by decide +kernel), List.mem_of_getElem? (i := 432) (by decide +kernel)⟩
theorem lw_p21 : lw_okq (⟨"CongruenceLedgerModel", "kinds", "()I"⟩, 16) := ⟨⟨by decide +kernel, by decide +kernel⟩, List.mem_of_getElem? (i := 336) (by decide +kernel), List.mem_of_getElem? (i := 435) (by decide +kernel), List.mem_of_getElem? (i := 436) (by decide +kernel)⟩
theorem lw_p22 : lw_okq (⟨"CongruenceLedgerModel", "joined", "(II)Z"⟩, 16) := ⟨⟨by decide +kernel, by decide +kernel⟩, List.mem_of_getElem? (i := 336) (by decide +kernel), List.mem_of_getElem? (i := 455) (by decide +kernel), List.mem_of_getElem? (i := 456) (by decide +kernel)⟩
theorem lw_p23 : lw_okq (⟨"CongruenceLedgerModel", "first", "(III)I"⟩, 16) := ⟨⟨by decide +kernel, by decide +kernel⟩, List.mem_of_getElem? (i := 336) (by decide +kernel), List.mem_of_getElem? (i := 487) (by decide +kernel), List.mem_of_getElem? (i := 488) (by decide +kernel)⟩
theorem lw_p24 : lw_okq (⟨"CongruenceLedgerModel", "weigh", "()V"⟩, 16) := ⟨⟨by decide +kernel, by decide +kernel⟩, List.mem_of_getElem? (i := 336) (by decide +kernel), List.mem_of_getElem? (i := 503) (by decide +kernel), List.mem_of_getElem? (i := 504) (by decide +kernel)⟩
theorem lw_p25 : lw_okq (⟨"CongruenceLedgerModel", "sum", "(I)J"⟩, 16) := ⟨⟨by decide +kernel, by decide +kernel⟩, List.mem_of_getElem? (i := 336) (by decide +kernel), List.mem_of_getElem? (i := 507) (by decide +kernel), List.mem_of_getElem? (i := 508) (by decide +kernel)⟩
theorem lw_p26 : lw_okq (⟨"CongruenceLedgerModel", "argument", "(I)J"⟩, 16) := ⟨⟨by decide +kernel, by decide +kernel⟩, List.mem_of_getElem? (i := 336) (by decide +kernel), List.mem_of_getElem? (i := 511) (by decide +kernel), List.mem_of_getElem? (i := 512) (by decide +kernel)⟩
theorem lw_p27 : lw_okq (⟨"CongruenceLedgerModel", "bestOf", "(I)I"⟩, 16) := ⟨⟨by decide +kernel, by decide +kernel⟩, List.mem_of_getElem? (i := 336) (by decide +kernel), List.mem_of_getElem? (i := 519) (by decide +kernel), List.mem_of_getElem? (i := 520) (by decide +kernel)⟩
def lw_privs_2 : List (MethodName × Nat) := [(⟨"CongruenceLedgerModel", "alone", "()V"⟩, 16), (⟨"CongruenceLedgerModel", "join", "(II)V"⟩, 16), (⟨"CongruenceLedgerModel", "settle", "()V"⟩, 16), (⟨"CongruenceLedgerModel", "alike", "(II)Z"⟩, 16), (⟨"CongruenceLedgerModel", "sameArgument", "(II)Z"⟩, 16), (⟨"CongruenceLedgerModel", "kinds", "()I"⟩, 16), (⟨"CongruenceLedgerModel", "joined", "(II)Z"⟩, 16), (⟨"CongruenceLedgerModel", "first", "(III)I"⟩, 16), (⟨"CongruenceLedgerModel", "weigh", "()V"⟩, 16), (⟨"CongruenceLedgerModel", "sum", "(I)J"⟩, 16), (⟨"CongruenceLedgerModel", "argument", "(I)J"⟩, 16), (⟨"CongruenceLedgerModel", "bestOf", "(I)I"⟩, 16)]
theorem lw_r2 : ∀ q ∈ lw_privs_2, lw_okq q := List.forall_mem_cons.mpr ⟨lw_p16, List.forall_mem_cons.mpr ⟨lw_p17, List.forall_mem_cons.mpr ⟨lw_p18, List.forall_mem_cons.mpr ⟨lw_p19, List.forall_mem_cons.mpr ⟨lw_p20, List.forall_mem_cons.mpr ⟨lw_p21, List.forall_mem_cons.mpr ⟨lw_p22, List.forall_mem_cons.mpr ⟨lw_p23, List.forall_mem_cons.mpr ⟨lw_p24, List.forall_mem_cons.mpr ⟨lw_p25, List.forall_mem_cons.mpr ⟨lw_p26, List.forall_mem_cons.mpr ⟨lw_p27, fun _ h => absurd h List.not_mem_nil⟩⟩⟩⟩⟩⟩⟩⟩⟩⟩⟩⟩
def lw_privs : List (MethodName × Nat) := lw_privs_1 ++ (lw_privs_2)
def lw_tbl : List Cond := k2_sels lw_privs ++ tables_1
theorem lw_privs_ok : ∀ q ∈ lw_privs, lw_okq q := by
  show ∀ q ∈ lw_privs_1 ++ (lw_privs_2), lw_okq q
  exact List.forall_mem_append.mpr ⟨lw_r1, lw_r2⟩
end
section
/-! names, fields, the words of the tables, by my program out of the claim's listing -/
def RX0 : String := "CongruenceLedger$LevelStack"
def TX0 : u_T := fun k => match k with
  | 0 => ("CongruenceLedger$LevelStack", "termCounts", "[I", true)
  | 1 => ("CongruenceLedger$LevelStack", "equationCounts", "[I", true)
  | 2 => ("CongruenceLedger$LevelStack", "disequationCounts", "[I", true)
  | _ => ("CongruenceLedger$LevelStack", "depth", "I", false)
def tyX0 : Nat → FieldType := fun k => match k with
  | 0 => .array .int
  | 1 => .array .int
  | 2 => .array .int
  | _ => .int
theorem nmX0 : ∀ a, a < 4 → ∀ b, b < 4 → a ≠ b → (TX0 a).2.1 ≠ (TX0 b).2.1 := by decide +kernel
theorem tyX0_ok : ∀ k, k < 4 → parseFieldDescriptor (TX0 k).2.2.1 = some (tyX0 k) := by decide +kernel
def RX1 : String := "CongruenceLedger$PairList"
def TX1 : u_T := fun k => match k with
  | 0 => ("CongruenceLedger$PairList", "lefts", "[I", true)
  | 1 => ("CongruenceLedger$PairList", "rights", "[I", true)
  | _ => ("CongruenceLedger$PairList", "count", "I", false)
def tyX1 : Nat → FieldType := fun k => match k with
  | 0 => .array .int
  | 1 => .array .int
  | _ => .int
theorem nmX1 : ∀ a, a < 3 → ∀ b, b < 3 → a ≠ b → (TX1 a).2.1 ≠ (TX1 b).2.1 := by decide +kernel
theorem tyX1_ok : ∀ k, k < 3 → parseFieldDescriptor (TX1 k).2.2.1 = some (tyX1 k) := by decide +kernel
def RX2 : String := "CongruenceLedger$Partition"
def TX2 : u_T := fun k => match k with
  | _ => ("CongruenceLedger$Partition", "lowest", "[I", true)
def tyX2 : Nat → FieldType := fun k => match k with
  | _ => .array .int
theorem nmX2 : ∀ a, a < 1 → ∀ b, b < 1 → a ≠ b → (TX2 a).2.1 ≠ (TX2 b).2.1 := by decide +kernel
theorem tyX2_ok : ∀ k, k < 1 → parseFieldDescriptor (TX2 k).2.2.1 = some (tyX2 k) := by decide +kernel
def RX3 : String := "CongruenceLedger$TermTable"
def TX3 : u_T := fun k => match k with
  | 0 => ("CongruenceLedger$TermTable", "symbols", "[I", true)
  | 1 => ("CongruenceLedger$TermTable", "firsts", "[I", true)
  | 2 => ("CongruenceLedger$TermTable", "seconds", "[I", true)
  | _ => ("CongruenceLedger$TermTable", "count", "I", false)
def tyX3 : Nat → FieldType := fun k => match k with
  | 0 => .array .int
  | 1 => .array .int
  | 2 => .array .int
  | _ => .int
theorem nmX3 : ∀ a, a < 4 → ∀ b, b < 4 → a ≠ b → (TX3 a).2.1 ≠ (TX3 b).2.1 := by decide +kernel
theorem tyX3_ok : ∀ k, k < 4 → parseFieldDescriptor (TX3 k).2.2.1 = some (tyX3 k) := by decide +kernel
def RX4 : String := "CongruenceLedger$WeightTable"
def TX4 : u_T := fun k => match k with
  | _ => ("CongruenceLedger$WeightTable", "ofClass", "[J", true)
def tyX4 : Nat → FieldType := fun k => match k with
  | _ => .array .long
theorem nmX4 : ∀ a, a < 1 → ∀ b, b < 1 → a ≠ b → (TX4 a).2.1 ≠ (TX4 b).2.1 := by decide +kernel
theorem tyX4_ok : ∀ k, k < 1 → parseFieldDescriptor (TX4 k).2.2.1 = some (tyX4 k) := by decide +kernel
def RX5 : String := "CongruenceLedger"
def TX5 : u_T := fun k => match k with
  | 0 => ("CongruenceLedger", "termTable", "LCongruenceLedger$TermTable;", true)
  | 1 => ("CongruenceLedger", "equationList", "LCongruenceLedger$PairList;", true)
  | 2 => ("CongruenceLedger", "disequationList", "LCongruenceLedger$PairList;", true)
  | 3 => ("CongruenceLedger", "levels", "LCongruenceLedger$LevelStack;", true)
  | 4 => ("CongruenceLedger", "current", "LCongruenceLedger$Partition;", true)
  | 5 => ("CongruenceLedger", "trial", "LCongruenceLedger$Partition;", true)
  | _ => ("CongruenceLedger", "weights", "LCongruenceLedger$WeightTable;", true)
def tyX5 : Nat → FieldType := fun k => match k with
  | 0 => .object "CongruenceLedger$TermTable"
  | 1 => .object "CongruenceLedger$PairList"
  | 2 => .object "CongruenceLedger$PairList"
  | 3 => .object "CongruenceLedger$LevelStack"
  | 4 => .object "CongruenceLedger$Partition"
  | 5 => .object "CongruenceLedger$Partition"
  | _ => .object "CongruenceLedger$WeightTable"
theorem nmX5 : ∀ a, a < 7 → ∀ b, b < 7 → a ≠ b → (TX5 a).2.1 ≠ (TX5 b).2.1 := by decide +kernel
theorem tyX5_ok : ∀ k, k < 7 → parseFieldDescriptor (TX5 k).2.2.1 = some (tyX5 k) := by decide +kernel
def RX6 : String := "CongruenceLedgerModel"
def TX6 : u_T := fun k => match k with
  | 0 => ("CongruenceLedgerModel", "count", "I", false)
  | 1 => ("CongruenceLedgerModel", "symbols", "[I", true)
  | 2 => ("CongruenceLedgerModel", "firsts", "[I", true)
  | 3 => ("CongruenceLedgerModel", "seconds", "[I", true)
  | 4 => ("CongruenceLedgerModel", "stated", "I", false)
  | 5 => ("CongruenceLedgerModel", "lefts", "[I", true)
  | 6 => ("CongruenceLedgerModel", "rights", "[I", true)
  | 7 => ("CongruenceLedgerModel", "denied", "I", false)
  | 8 => ("CongruenceLedgerModel", "ones", "[I", true)
  | 9 => ("CongruenceLedgerModel", "others", "[I", true)
  | 10 => ("CongruenceLedgerModel", "deep", "I", false)
  | 11 => ("CongruenceLedgerModel", "countThen", "[I", true)
  | 12 => ("CongruenceLedgerModel", "statedThen", "[I", true)
  | 13 => ("CongruenceLedgerModel", "deniedThen", "[I", true)
  | 14 => ("CongruenceLedgerModel", "label", "[I", true)
  | _ => ("CongruenceLedgerModel", "least", "[J", true)
def tyX6 : Nat → FieldType := fun k => match k with
  | 0 => .int
  | 1 => .array .int
  | 2 => .array .int
  | 3 => .array .int
  | 4 => .int
  | 5 => .array .int
  | 6 => .array .int
  | 7 => .int
  | 8 => .array .int
  | 9 => .array .int
  | 10 => .int
  | 11 => .array .int
  | 12 => .array .int
  | 13 => .array .int
  | 14 => .array .int
  | _ => .array .long
theorem nmX6 : ∀ a, a < 16 → ∀ b, b < 16 → a ≠ b → (TX6 a).2.1 ≠ (TX6 b).2.1 := by decide +kernel
theorem tyX6_ok : ∀ k, k < 16 → parseFieldDescriptor (TX6 k).2.2.1 = some (tyX6 k) := by decide +kernel
def RL : String := "CongruenceLedgerLaw"
abbrev vwCl : List vw_C := [(RX0, TX0, 4), (RX1, TX1, 3), (RX2, TX2, 1), (RX3, TX3, 4), (RX4, TX4, 1), (RX5, TX5, 7), (RX6, TX6, 16)]
abbrev cX0_init : ByteArray := prog_2_method_1_code
def yX0_init : MethodName := ⟨RX0, "<init>", "()V"⟩
abbrev cX0_push : ByteArray := prog_2_method_2_code
def yX0_push : MethodName := ⟨RX0, "push", "(III)V"⟩
abbrev cX1_init : ByteArray := prog_3_method_1_code
def yX1_init : MethodName := ⟨RX1, "<init>", "(I)V"⟩
abbrev cX1_isFull : ByteArray := prog_3_method_2_code
def yX1_isFull : MethodName := ⟨RX1, "isFull", "()Z"⟩
abbrev cX1_add : ByteArray := prog_3_method_3_code
def yX1_add : MethodName := ⟨RX1, "add", "(II)I"⟩
abbrev cX2_init : ByteArray := prog_4_method_1_code
def yX2_init : MethodName := ⟨RX2, "<init>", "()V"⟩
abbrev cX2_joins : ByteArray := prog_4_method_2_code
def yX2_joins : MethodName := ⟨RX2, "joins", "(II)Z"⟩
abbrev cX2_classCount : ByteArray := prog_4_method_3_code
def yX2_classCount : MethodName := ⟨RX2, "classCount", "(I)I"⟩
abbrev cX2_fits : ByteArray := prog_4_method_4_code
def yX2_fits : MethodName := ⟨RX2, "fits", "(LCongruenceLedger$TermTable;IIII)Z"⟩
abbrev cX2_sameArgument : ByteArray := prog_4_method_5_code
def yX2_sameArgument : MethodName := ⟨RX2, "sameArgument", "(II)Z"⟩
abbrev cX2_settle : ByteArray := prog_4_method_6_code
def yX2_settle : MethodName := ⟨RX2, "settle", "(LCongruenceLedger$TermTable;LCongruenceLedger$PairList;I)V"⟩
abbrev cX2_mergeCongruent : ByteArray := prog_4_method_7_code
def yX2_mergeCongruent : MethodName := ⟨RX2, "mergeCongruent", "(LCongruenceLedger$TermTable;)Z"⟩
abbrev cX2_congruent : ByteArray := prog_4_method_8_code
def yX2_congruent : MethodName := ⟨RX2, "congruent", "(LCongruenceLedger$TermTable;II)Z"⟩
abbrev cX2_merge : ByteArray := prog_4_method_9_code
def yX2_merge : MethodName := ⟨RX2, "merge", "(III)V"⟩
abbrev cX3_init : ByteArray := prog_5_method_1_code
def yX3_init : MethodName := ⟨RX3, "<init>", "()V"⟩
abbrev cX3_numberOf : ByteArray := prog_5_method_2_code
def yX3_numberOf : MethodName := ⟨RX3, "numberOf", "(III)I"⟩
abbrev cX3_add : ByteArray := prog_5_method_3_code
def yX3_add : MethodName := ⟨RX3, "add", "(III)I"⟩
abbrev cX4_init : ByteArray := prog_6_method_1_code
def yX4_init : MethodName := ⟨RX4, "<init>", "()V"⟩
abbrev cX4_weigh : ByteArray := prog_6_method_2_code
def yX4_weigh : MethodName := ⟨RX4, "weigh", "(LCongruenceLedger$TermTable;LCongruenceLedger$Partition;)V"⟩
abbrev cX4_lower : ByteArray := prog_6_method_3_code
def yX4_lower : MethodName := ⟨RX4, "lower", "(LCongruenceLedger$TermTable;LCongruenceLedger$Partition;)Z"⟩
abbrev cX4_costOf : ByteArray := prog_6_method_4_code
def yX4_costOf : MethodName := ⟨RX4, "costOf", "(LCongruenceLedger$TermTable;LCongruenceLedger$Partition;I)J"⟩
abbrev cX4_ofArgument : ByteArray := prog_6_method_5_code
def yX4_ofArgument : MethodName := ⟨RX4, "ofArgument", "(LCongruenceLedger$Partition;I)J"⟩
abbrev cX4_ofTerm : ByteArray := prog_6_method_6_code
def yX4_ofTerm : MethodName := ⟨RX4, "ofTerm", "(LCongruenceLedger$Partition;I)J"⟩
abbrev cX4_lightest : ByteArray := prog_6_method_7_code
def yX4_lightest : MethodName := ⟨RX4, "lightest", "(LCongruenceLedger$TermTable;LCongruenceLedger$Partition;I)I"⟩
abbrev cX4_symbolAt : ByteArray := prog_6_method_8_code
def yX4_symbolAt : MethodName := ⟨RX4, "symbolAt", "(LCongruenceLedger$TermTable;LCongruenceLedger$Partition;II)I"⟩
abbrev cX5_init : ByteArray := prog_1_method_1_code
def yX5_init : MethodName := ⟨RX5, "<init>", "()V"⟩
abbrev cX5_make : ByteArray := prog_1_method_2_code
def yX5_make : MethodName := ⟨RX5, "make", "(III)I"⟩
abbrev cX5_equate : ByteArray := prog_1_method_3_code
def yX5_equate : MethodName := ⟨RX5, "equate", "(II)I"⟩
abbrev cX5_differ : ByteArray := prog_1_method_4_code
def yX5_differ : MethodName := ⟨RX5, "differ", "(II)I"⟩
abbrev cX5_open : ByteArray := prog_1_method_5_code
def yX5_open : MethodName := ⟨RX5, "open", "()I"⟩
abbrev cX5_close : ByteArray := prog_1_method_6_code
def yX5_close : MethodName := ⟨RX5, "close", "()I"⟩
abbrev cX5_equal : ByteArray := prog_1_method_7_code
def yX5_equal : MethodName := ⟨RX5, "equal", "(II)I"⟩
abbrev cX5_apart : ByteArray := prog_1_method_8_code
def yX5_apart : MethodName := ⟨RX5, "apart", "(II)I"⟩
abbrev cX5_consistent : ByteArray := prog_1_method_9_code
def yX5_consistent : MethodName := ⟨RX5, "consistent", "()Z"⟩
abbrev cX5_leader : ByteArray := prog_1_method_10_code
def yX5_leader : MethodName := ⟨RX5, "leader", "(I)I"⟩
abbrev cX5_members : ByteArray := prog_1_method_11_code
def yX5_members : MethodName := ⟨RX5, "members", "(I)I"⟩
abbrev cX5_classes : ByteArray := prog_1_method_12_code
def yX5_classes : MethodName := ⟨RX5, "classes", "()I"⟩
abbrev cX5_find : ByteArray := prog_1_method_13_code
def yX5_find : MethodName := ⟨RX5, "find", "(III)I"⟩
abbrev cX5_since : ByteArray := prog_1_method_14_code
def yX5_since : MethodName := ⟨RX5, "since", "(II)I"⟩
abbrev cX5_explanation : ByteArray := prog_1_method_15_code
def yX5_explanation : MethodName := ⟨RX5, "explanation", "(II)I"⟩
abbrev cX5_needed : ByteArray := prog_1_method_16_code
def yX5_needed : MethodName := ⟨RX5, "needed", "(II)I"⟩
abbrev cX5_weight : ByteArray := prog_1_method_17_code
def yX5_weight : MethodName := ⟨RX5, "weight", "(I)J"⟩
abbrev cX5_best : ByteArray := prog_1_method_18_code
def yX5_best : MethodName := ⟨RX5, "best", "(I)I"⟩
abbrev cX5_written : ByteArray := prog_1_method_19_code
def yX5_written : MethodName := ⟨RX5, "written", "(II)I"⟩
abbrev cX5_terms : ByteArray := prog_1_method_20_code
def yX5_terms : MethodName := ⟨RX5, "terms", "()I"⟩
abbrev cX5_equations : ByteArray := prog_1_method_21_code
def yX5_equations : MethodName := ⟨RX5, "equations", "()I"⟩
abbrev cX5_isTerm : ByteArray := prog_1_method_22_code
def yX5_isTerm : MethodName := ⟨RX5, "isTerm", "(I)Z"⟩
abbrev cX5_areTerms : ByteArray := prog_1_method_23_code
def yX5_areTerms : MethodName := ⟨RX5, "areTerms", "(II)Z"⟩
abbrev cX5_isShape : ByteArray := prog_1_method_24_code
def yX5_isShape : MethodName := ⟨RX5, "isShape", "(III)Z"⟩
abbrev cX5_settleCurrent : ByteArray := prog_1_method_25_code
def yX5_settleCurrent : MethodName := ⟨RX5, "settleCurrent", "()V"⟩
abbrev cX5_followsFrom : ByteArray := prog_1_method_26_code
def yX5_followsFrom : MethodName := ⟨RX5, "followsFrom", "(III)Z"⟩
abbrev cX5_allBelow : ByteArray := prog_1_method_27_code
def yX5_allBelow : MethodName := ⟨RX5, "allBelow", "(I)I"⟩
abbrev cX6_init : ByteArray := prog_8_method_1_code
def yX6_init : MethodName := ⟨RX6, "<init>", "()V"⟩
abbrev cX6_isTerm : ByteArray := prog_8_method_2_code
def yX6_isTerm : MethodName := ⟨RX6, "isTerm", "(I)Z"⟩
abbrev cX6_alone : ByteArray := prog_8_method_3_code
def yX6_alone : MethodName := ⟨RX6, "alone", "()V"⟩
abbrev cX6_join : ByteArray := prog_8_method_4_code
def yX6_join : MethodName := ⟨RX6, "join", "(II)V"⟩
abbrev cX6_sameArgument : ByteArray := prog_8_method_5_code
def yX6_sameArgument : MethodName := ⟨RX6, "sameArgument", "(II)Z"⟩
abbrev cX6_alike : ByteArray := prog_8_method_6_code
def yX6_alike : MethodName := ⟨RX6, "alike", "(II)Z"⟩
abbrev cX6_settle : ByteArray := prog_8_method_7_code
def yX6_settle : MethodName := ⟨RX6, "settle", "()V"⟩
abbrev cX6_work : ByteArray := prog_8_method_8_code
def yX6_work : MethodName := ⟨RX6, "work", "(II)V"⟩
abbrev cX6_workAll : ByteArray := prog_8_method_9_code
def yX6_workAll : MethodName := ⟨RX6, "workAll", "()V"⟩
abbrev cX6_joined : ByteArray := prog_8_method_10_code
def yX6_joined : MethodName := ⟨RX6, "joined", "(II)Z"⟩
abbrev cX6_first : ByteArray := prog_8_method_11_code
def yX6_first : MethodName := ⟨RX6, "first", "(III)I"⟩
abbrev cX6_kinds : ByteArray := prog_8_method_12_code
def yX6_kinds : MethodName := ⟨RX6, "kinds", "()I"⟩
abbrev cX6_wrongParts : ByteArray := prog_8_method_13_code
def yX6_wrongParts : MethodName := ⟨RX6, "wrongParts", "(III)Z"⟩
abbrev cX6_make : ByteArray := prog_8_method_14_code
def yX6_make : MethodName := ⟨RX6, "make", "(III)I"⟩
abbrev cX6_equate : ByteArray := prog_8_method_15_code
def yX6_equate : MethodName := ⟨RX6, "equate", "(II)I"⟩
abbrev cX6_differ : ByteArray := prog_8_method_16_code
def yX6_differ : MethodName := ⟨RX6, "differ", "(II)I"⟩
abbrev cX6_open : ByteArray := prog_8_method_17_code
def yX6_open : MethodName := ⟨RX6, "open", "()I"⟩
abbrev cX6_close : ByteArray := prog_8_method_18_code
def yX6_close : MethodName := ⟨RX6, "close", "()I"⟩
abbrev cX6_equal : ByteArray := prog_8_method_19_code
def yX6_equal : MethodName := ⟨RX6, "equal", "(II)I"⟩
abbrev cX6_apart : ByteArray := prog_8_method_20_code
def yX6_apart : MethodName := ⟨RX6, "apart", "(II)I"⟩
abbrev cX6_consistent : ByteArray := prog_8_method_21_code
def yX6_consistent : MethodName := ⟨RX6, "consistent", "()Z"⟩
abbrev cX6_leader : ByteArray := prog_8_method_22_code
def yX6_leader : MethodName := ⟨RX6, "leader", "(I)I"⟩
abbrev cX6_members : ByteArray := prog_8_method_23_code
def yX6_members : MethodName := ⟨RX6, "members", "(I)I"⟩
abbrev cX6_classes : ByteArray := prog_8_method_24_code
def yX6_classes : MethodName := ⟨RX6, "classes", "()I"⟩
abbrev cX6_find : ByteArray := prog_8_method_25_code
def yX6_find : MethodName := ⟨RX6, "find", "(III)I"⟩
abbrev cX6_since : ByteArray := prog_8_method_26_code
def yX6_since : MethodName := ⟨RX6, "since", "(II)I"⟩
abbrev cX6_explanation : ByteArray := prog_8_method_27_code
def yX6_explanation : MethodName := ⟨RX6, "explanation", "(II)I"⟩
abbrev cX6_needed : ByteArray := prog_8_method_28_code
def yX6_needed : MethodName := ⟨RX6, "needed", "(II)I"⟩
abbrev cX6_argument : ByteArray := prog_8_method_29_code
def yX6_argument : MethodName := ⟨RX6, "argument", "(I)J"⟩
abbrev cX6_sum : ByteArray := prog_8_method_30_code
def yX6_sum : MethodName := ⟨RX6, "sum", "(I)J"⟩
abbrev cX6_weigh : ByteArray := prog_8_method_31_code
def yX6_weigh : MethodName := ⟨RX6, "weigh", "()V"⟩
abbrev cX6_bestOf : ByteArray := prog_8_method_32_code
def yX6_bestOf : MethodName := ⟨RX6, "bestOf", "(I)I"⟩
abbrev cX6_weight : ByteArray := prog_8_method_33_code
def yX6_weight : MethodName := ⟨RX6, "weight", "(I)J"⟩
abbrev cX6_best : ByteArray := prog_8_method_34_code
def yX6_best : MethodName := ⟨RX6, "best", "(I)I"⟩
abbrev cX6_written : ByteArray := prog_8_method_35_code
def yX6_written : MethodName := ⟨RX6, "written", "(II)I"⟩
abbrev cX6_terms : ByteArray := prog_8_method_36_code
def yX6_terms : MethodName := ⟨RX6, "terms", "()I"⟩
abbrev cX6_equations : ByteArray := prog_8_method_37_code
def yX6_equations : MethodName := ⟨RX6, "equations", "()I"⟩
abbrev cAr_fill : ByteArray := prog_10_method_101_code
def yAr_fill : MethodName := ⟨"java/util/Arrays", "fill", "([JJ)V"⟩
def RAr : String := "java/util/Arrays"
theorem hdAr_fill : yAr_fill.cls = RAr ∧ yAr_fill.cls ≠ "java/lang/invoke/MethodHandle" ∧ yAr_fill.cls ≠ "java/lang/invoke/VarHandle" ∧ (parseMethodDescriptor yAr_fill.desc).map (fun d => d.parameters.length) = some 2 := by decide +kernel
/-- the words that every contract of mine takes -/
def tbw : List Cond := lw_tbl.filter goodWord
theorem tb_gw {w : Cond} (h : w ∈ tbw) : (w.onTables && w.keeps) = true ∨ ∃ ty, w = .arrayClass ty := good_of_word (List.mem_filter.mp h).2
theorem tb_all {A : List Cond} {c2 : Cond} (hA : ∀ w ∈ A, w ∈ tbw) (h2 : c2 ∈ tbw) : ∀ w ∈ A ++ (c2 :: tbw), w ∈ tbw := fun w hw => (List.mem_append.mp hw).elim (hA w) (fun h => (List.mem_cons.mp h).elim (fun e => e ▸ h2) id)
theorem tb_in2 {c1 c2 : Cond} (h2 : c2 ∈ tbw) : GoodIn (c1 :: tbw) (c2 :: tbw) := fun w hw => (List.mem_cons.mp hw).elim (fun e => e ▸ ⟨List.mem_cons_of_mem _ h2, tb_gw h2⟩) (fun h => ⟨List.mem_cons_of_mem _ h, tb_gw h⟩)
theorem tb_c {c1 : Cond} {A : List Cond} (hA : ∀ w ∈ A, w ∈ tbw) : ∀ w ∈ A, w ∈ c1 :: tbw := fun w hw => List.mem_cons_of_mem _ (hA w hw)
theorem tb_in {c1 : Cond} {A : List Cond} (hA : ∀ w ∈ A, w ∈ tbw) : GoodIn (c1 :: tbw) A := fun w hw => ⟨List.mem_cons_of_mem _ (hA w hw), tb_gw (hA w hw)⟩
theorem tw_0 : Cond.initialized RL ∈ tbw := List.mem_filter.mpr ⟨List.mem_of_getElem? (i := 28) (by decide +kernel), by decide +kernel⟩
theorem tw_1 : Cond.initialized RX5 ∈ tbw := List.mem_filter.mpr ⟨List.mem_of_getElem? (i := 29) (by decide +kernel), by decide +kernel⟩
theorem tw_2 : Cond.initialized RX3 ∈ tbw := List.mem_filter.mpr ⟨List.mem_of_getElem? (i := 30) (by decide +kernel), by decide +kernel⟩
theorem tw_3 : Cond.initialized RX1 ∈ tbw := List.mem_filter.mpr ⟨List.mem_of_getElem? (i := 31) (by decide +kernel), by decide +kernel⟩
theorem tw_4 : Cond.initialized RX0 ∈ tbw := List.mem_filter.mpr ⟨List.mem_of_getElem? (i := 32) (by decide +kernel), by decide +kernel⟩
theorem tw_5 : Cond.initialized RX2 ∈ tbw := List.mem_filter.mpr ⟨List.mem_of_getElem? (i := 33) (by decide +kernel), by decide +kernel⟩
theorem tw_6 : Cond.initialized RX4 ∈ tbw := List.mem_filter.mpr ⟨List.mem_of_getElem? (i := 34) (by decide +kernel), by decide +kernel⟩
theorem tw_7 : Cond.initialized RX6 ∈ tbw := List.mem_filter.mpr ⟨List.mem_of_getElem? (i := 35) (by decide +kernel), by decide +kernel⟩
theorem tw_8 : Cond.initialized "java/lang/Math" ∈ tbw := List.mem_filter.mpr ⟨List.mem_of_getElem? (i := 36) (by decide +kernel), by decide +kernel⟩
theorem tw_9 : Cond.initialized "java/util/Arrays" ∈ tbw := List.mem_filter.mpr ⟨List.mem_of_getElem? (i := 37) (by decide +kernel), by decide +kernel⟩
theorem tw_10 : Cond.classLink RL 7 RX5 ∈ tbw := List.mem_filter.mpr ⟨List.mem_of_getElem? (i := 38) (by decide +kernel), by decide +kernel⟩
theorem tw_11 : Cond.instantiable RX5 7 ∈ tbw := List.mem_filter.mpr ⟨List.mem_of_getElem? (i := 39) (by decide +kernel), by decide +kernel⟩
theorem tw_12 : Cond.methodLink RL 9 yX5_init ∈ tbw := List.mem_filter.mpr ⟨List.mem_of_getElem? (i := 40) (by decide +kernel), by decide +kernel⟩
theorem tw_13 : Cond.instanceMethod yX5_init ∈ tbw := List.mem_filter.mpr ⟨List.mem_of_getElem? (i := 41) (by decide +kernel), by decide +kernel⟩
theorem tw_14 : Cond.code yX5_init cX5_init 1 none ∈ tbw := List.mem_filter.mpr ⟨List.mem_of_getElem? (i := 42) (by decide +kernel), by decide +kernel⟩
theorem tw_15 : Cond.methodLink RX5 1 objectInit ∈ tbw := List.mem_filter.mpr ⟨List.mem_of_getElem? (i := 43) (by decide +kernel), by decide +kernel⟩
theorem tw_16 : Cond.instanceMethod objectInit ∈ tbw := List.mem_filter.mpr ⟨List.mem_of_getElem? (i := 44) (by decide +kernel), by decide +kernel⟩
theorem tw_17 : Cond.code objectInit ⟨#[0xb1]⟩ 1 none ∈ tbw := List.mem_filter.mpr ⟨List.mem_of_getElem? (i := 45) (by decide +kernel), by decide +kernel⟩
theorem tw_18 : Cond.classLink RX5 7 RX3 ∈ tbw := List.mem_filter.mpr ⟨List.mem_of_getElem? (i := 46) (by decide +kernel), by decide +kernel⟩
theorem tw_19 : Cond.instantiable RX3 4 ∈ tbw := List.mem_filter.mpr ⟨List.mem_of_getElem? (i := 47) (by decide +kernel), by decide +kernel⟩
theorem tw_21 : Cond.instanceMethod yX3_init ∈ tbw := List.mem_filter.mpr ⟨List.mem_of_getElem? (i := 49) (by decide +kernel), by decide +kernel⟩
theorem tw_22 : Cond.code yX3_init cX3_init 1 none ∈ tbw := List.mem_filter.mpr ⟨List.mem_of_getElem? (i := 50) (by decide +kernel), by decide +kernel⟩
theorem tw_23 : Cond.methodLink RX3 3 objectInit ∈ tbw := List.mem_filter.mpr ⟨List.mem_of_getElem? (i := 51) (by decide +kernel), by decide +kernel⟩
theorem tw_24 : Cond.fieldLink RX3 9 "CongruenceLedger$TermTable" "symbols" "[I" ∈ tbw := List.mem_filter.mpr ⟨List.mem_of_getElem? (i := 52) (by decide +kernel), by decide +kernel⟩
theorem tw_25 : Cond.fieldLink RX2 15 "CongruenceLedger$TermTable" "symbols" "[I" ∈ tbw := List.mem_filter.mpr ⟨List.mem_of_getElem? (i := 53) (by decide +kernel), by decide +kernel⟩
theorem tw_26 : Cond.fieldLink RX4 64 "CongruenceLedger$TermTable" "symbols" "[I" ∈ tbw := List.mem_filter.mpr ⟨List.mem_of_getElem? (i := 54) (by decide +kernel), by decide +kernel⟩
theorem tw_27 : Cond.fieldLink RX3 15 "CongruenceLedger$TermTable" "firsts" "[I" ∈ tbw := List.mem_filter.mpr ⟨List.mem_of_getElem? (i := 55) (by decide +kernel), by decide +kernel⟩
theorem tw_28 : Cond.fieldLink RX4 43 "CongruenceLedger$TermTable" "firsts" "[I" ∈ tbw := List.mem_filter.mpr ⟨List.mem_of_getElem? (i := 56) (by decide +kernel), by decide +kernel⟩
theorem tw_29 : Cond.fieldLink RX2 20 "CongruenceLedger$TermTable" "firsts" "[I" ∈ tbw := List.mem_filter.mpr ⟨List.mem_of_getElem? (i := 57) (by decide +kernel), by decide +kernel⟩
theorem tw_30 : Cond.fieldLink RX3 18 "CongruenceLedger$TermTable" "seconds" "[I" ∈ tbw := List.mem_filter.mpr ⟨List.mem_of_getElem? (i := 58) (by decide +kernel), by decide +kernel⟩
theorem tw_31 : Cond.fieldLink RX4 50 "CongruenceLedger$TermTable" "seconds" "[I" ∈ tbw := List.mem_filter.mpr ⟨List.mem_of_getElem? (i := 59) (by decide +kernel), by decide +kernel⟩
theorem tw_32 : Cond.fieldLink RX2 27 "CongruenceLedger$TermTable" "seconds" "[I" ∈ tbw := List.mem_filter.mpr ⟨List.mem_of_getElem? (i := 60) (by decide +kernel), by decide +kernel⟩
theorem tw_33 : Cond.fieldLink RX3 21 "CongruenceLedger$TermTable" "count" "I" ∈ tbw := List.mem_filter.mpr ⟨List.mem_of_getElem? (i := 61) (by decide +kernel), by decide +kernel⟩
theorem tw_34 : Cond.fieldLink RX4 23 "CongruenceLedger$TermTable" "count" "I" ∈ tbw := List.mem_filter.mpr ⟨List.mem_of_getElem? (i := 62) (by decide +kernel), by decide +kernel⟩
theorem tw_35 : Cond.fieldLink RX5 60 "CongruenceLedger$TermTable" "count" "I" ∈ tbw := List.mem_filter.mpr ⟨List.mem_of_getElem? (i := 63) (by decide +kernel), by decide +kernel⟩
theorem tw_36 : Cond.fieldLink RX2 33 "CongruenceLedger$TermTable" "count" "I" ∈ tbw := List.mem_filter.mpr ⟨List.mem_of_getElem? (i := 64) (by decide +kernel), by decide +kernel⟩
theorem tw_37 : Cond.laysFinal RX3 "CongruenceLedger$TermTable" "symbols" "[I" ∈ tbw := List.mem_filter.mpr ⟨List.mem_of_getElem? (i := 65) (by decide +kernel), by decide +kernel⟩
theorem tw_39 : Cond.laysFinal RX3 "CongruenceLedger$TermTable" "firsts" "[I" ∈ tbw := List.mem_filter.mpr ⟨List.mem_of_getElem? (i := 67) (by decide +kernel), by decide +kernel⟩
theorem tw_41 : Cond.laysFinal RX3 "CongruenceLedger$TermTable" "seconds" "[I" ∈ tbw := List.mem_filter.mpr ⟨List.mem_of_getElem? (i := 69) (by decide +kernel), by decide +kernel⟩
theorem tw_43 : Cond.lays RX3 "CongruenceLedger$TermTable" "count" "I" ∈ tbw := List.mem_filter.mpr ⟨List.mem_of_getElem? (i := 71) (by decide +kernel), by decide +kernel⟩
theorem tw_46 : Cond.arrayClass .int ∈ tbw := List.mem_filter.mpr ⟨List.mem_of_getElem? (i := 74) (by decide +kernel), by decide +kernel⟩
theorem tw_47 : Cond.classLink RX5 16 RX1 ∈ tbw := List.mem_filter.mpr ⟨List.mem_of_getElem? (i := 75) (by decide +kernel), by decide +kernel⟩
theorem tw_48 : Cond.instantiable RX1 3 ∈ tbw := List.mem_filter.mpr ⟨List.mem_of_getElem? (i := 76) (by decide +kernel), by decide +kernel⟩
theorem tw_49 : Cond.methodLink RX5 18 yX1_init ∈ tbw := List.mem_filter.mpr ⟨List.mem_of_getElem? (i := 77) (by decide +kernel), by decide +kernel⟩
theorem tw_50 : Cond.instanceMethod yX1_init ∈ tbw := List.mem_filter.mpr ⟨List.mem_of_getElem? (i := 78) (by decide +kernel), by decide +kernel⟩
theorem tw_51 : Cond.code yX1_init cX1_init 2 none ∈ tbw := List.mem_filter.mpr ⟨List.mem_of_getElem? (i := 79) (by decide +kernel), by decide +kernel⟩
theorem tw_52 : Cond.methodLink RX1 1 objectInit ∈ tbw := List.mem_filter.mpr ⟨List.mem_of_getElem? (i := 80) (by decide +kernel), by decide +kernel⟩
theorem tw_53 : Cond.fieldLink RX1 13 "CongruenceLedger$PairList" "lefts" "[I" ∈ tbw := List.mem_filter.mpr ⟨List.mem_of_getElem? (i := 81) (by decide +kernel), by decide +kernel⟩
theorem tw_54 : Cond.fieldLink RX2 40 "CongruenceLedger$PairList" "lefts" "[I" ∈ tbw := List.mem_filter.mpr ⟨List.mem_of_getElem? (i := 82) (by decide +kernel), by decide +kernel⟩
theorem tw_55 : Cond.fieldLink RX5 106 "CongruenceLedger$PairList" "lefts" "[I" ∈ tbw := List.mem_filter.mpr ⟨List.mem_of_getElem? (i := 83) (by decide +kernel), by decide +kernel⟩
theorem tw_56 : Cond.fieldLink RX1 17 "CongruenceLedger$PairList" "rights" "[I" ∈ tbw := List.mem_filter.mpr ⟨List.mem_of_getElem? (i := 84) (by decide +kernel), by decide +kernel⟩
theorem tw_57 : Cond.fieldLink RX2 43 "CongruenceLedger$PairList" "rights" "[I" ∈ tbw := List.mem_filter.mpr ⟨List.mem_of_getElem? (i := 85) (by decide +kernel), by decide +kernel⟩
theorem tw_58 : Cond.fieldLink RX5 109 "CongruenceLedger$PairList" "rights" "[I" ∈ tbw := List.mem_filter.mpr ⟨List.mem_of_getElem? (i := 86) (by decide +kernel), by decide +kernel⟩
theorem tw_59 : Cond.fieldLink RX1 7 "CongruenceLedger$PairList" "count" "I" ∈ tbw := List.mem_filter.mpr ⟨List.mem_of_getElem? (i := 87) (by decide +kernel), by decide +kernel⟩
theorem tw_60 : Cond.fieldLink RX5 88 "CongruenceLedger$PairList" "count" "I" ∈ tbw := List.mem_filter.mpr ⟨List.mem_of_getElem? (i := 88) (by decide +kernel), by decide +kernel⟩
theorem tw_61 : Cond.fieldLink RX2 37 "CongruenceLedger$PairList" "count" "I" ∈ tbw := List.mem_filter.mpr ⟨List.mem_of_getElem? (i := 89) (by decide +kernel), by decide +kernel⟩
theorem tw_62 : Cond.laysFinal RX1 "CongruenceLedger$PairList" "lefts" "[I" ∈ tbw := List.mem_filter.mpr ⟨List.mem_of_getElem? (i := 90) (by decide +kernel), by decide +kernel⟩
theorem tw_64 : Cond.laysFinal RX1 "CongruenceLedger$PairList" "rights" "[I" ∈ tbw := List.mem_filter.mpr ⟨List.mem_of_getElem? (i := 92) (by decide +kernel), by decide +kernel⟩
theorem tw_66 : Cond.lays RX1 "CongruenceLedger$PairList" "count" "I" ∈ tbw := List.mem_filter.mpr ⟨List.mem_of_getElem? (i := 94) (by decide +kernel), by decide +kernel⟩
theorem tw_69 : Cond.classLink RX5 28 RX0 ∈ tbw := List.mem_filter.mpr ⟨List.mem_of_getElem? (i := 97) (by decide +kernel), by decide +kernel⟩
theorem tw_70 : Cond.instantiable RX0 4 ∈ tbw := List.mem_filter.mpr ⟨List.mem_of_getElem? (i := 98) (by decide +kernel), by decide +kernel⟩
theorem tw_72 : Cond.instanceMethod yX0_init ∈ tbw := List.mem_filter.mpr ⟨List.mem_of_getElem? (i := 100) (by decide +kernel), by decide +kernel⟩
theorem tw_73 : Cond.code yX0_init cX0_init 1 none ∈ tbw := List.mem_filter.mpr ⟨List.mem_of_getElem? (i := 101) (by decide +kernel), by decide +kernel⟩
theorem tw_74 : Cond.methodLink RX0 3 objectInit ∈ tbw := List.mem_filter.mpr ⟨List.mem_of_getElem? (i := 102) (by decide +kernel), by decide +kernel⟩
theorem tw_75 : Cond.fieldLink RX0 9 "CongruenceLedger$LevelStack" "termCounts" "[I" ∈ tbw := List.mem_filter.mpr ⟨List.mem_of_getElem? (i := 103) (by decide +kernel), by decide +kernel⟩
theorem tw_76 : Cond.fieldLink RX5 93 "CongruenceLedger$LevelStack" "termCounts" "[I" ∈ tbw := List.mem_filter.mpr ⟨List.mem_of_getElem? (i := 104) (by decide +kernel), by decide +kernel⟩
theorem tw_77 : Cond.fieldLink RX0 15 "CongruenceLedger$LevelStack" "equationCounts" "[I" ∈ tbw := List.mem_filter.mpr ⟨List.mem_of_getElem? (i := 105) (by decide +kernel), by decide +kernel⟩
theorem tw_78 : Cond.fieldLink RX5 97 "CongruenceLedger$LevelStack" "equationCounts" "[I" ∈ tbw := List.mem_filter.mpr ⟨List.mem_of_getElem? (i := 106) (by decide +kernel), by decide +kernel⟩
theorem tw_79 : Cond.fieldLink RX0 18 "CongruenceLedger$LevelStack" "disequationCounts" "[I" ∈ tbw := List.mem_filter.mpr ⟨List.mem_of_getElem? (i := 107) (by decide +kernel), by decide +kernel⟩
theorem tw_80 : Cond.fieldLink RX5 100 "CongruenceLedger$LevelStack" "disequationCounts" "[I" ∈ tbw := List.mem_filter.mpr ⟨List.mem_of_getElem? (i := 108) (by decide +kernel), by decide +kernel⟩
theorem tw_81 : Cond.fieldLink RX0 21 "CongruenceLedger$LevelStack" "depth" "I" ∈ tbw := List.mem_filter.mpr ⟨List.mem_of_getElem? (i := 109) (by decide +kernel), by decide +kernel⟩
theorem tw_82 : Cond.fieldLink RX5 85 "CongruenceLedger$LevelStack" "depth" "I" ∈ tbw := List.mem_filter.mpr ⟨List.mem_of_getElem? (i := 110) (by decide +kernel), by decide +kernel⟩
theorem tw_83 : Cond.laysFinal RX0 "CongruenceLedger$LevelStack" "termCounts" "[I" ∈ tbw := List.mem_filter.mpr ⟨List.mem_of_getElem? (i := 111) (by decide +kernel), by decide +kernel⟩
theorem tw_85 : Cond.laysFinal RX0 "CongruenceLedger$LevelStack" "equationCounts" "[I" ∈ tbw := List.mem_filter.mpr ⟨List.mem_of_getElem? (i := 113) (by decide +kernel), by decide +kernel⟩
theorem tw_87 : Cond.laysFinal RX0 "CongruenceLedger$LevelStack" "disequationCounts" "[I" ∈ tbw := List.mem_filter.mpr ⟨List.mem_of_getElem? (i := 115) (by decide +kernel), by decide +kernel⟩
theorem tw_89 : Cond.lays RX0 "CongruenceLedger$LevelStack" "depth" "I" ∈ tbw := List.mem_filter.mpr ⟨List.mem_of_getElem? (i := 117) (by decide +kernel), by decide +kernel⟩
theorem tw_92 : Cond.classLink RX5 35 RX2 ∈ tbw := List.mem_filter.mpr ⟨List.mem_of_getElem? (i := 120) (by decide +kernel), by decide +kernel⟩
theorem tw_93 : Cond.instantiable RX2 1 ∈ tbw := List.mem_filter.mpr ⟨List.mem_of_getElem? (i := 121) (by decide +kernel), by decide +kernel⟩
theorem tw_95 : Cond.instanceMethod yX2_init ∈ tbw := List.mem_filter.mpr ⟨List.mem_of_getElem? (i := 123) (by decide +kernel), by decide +kernel⟩
theorem tw_96 : Cond.code yX2_init cX2_init 1 none ∈ tbw := List.mem_filter.mpr ⟨List.mem_of_getElem? (i := 124) (by decide +kernel), by decide +kernel⟩
theorem tw_97 : Cond.methodLink RX2 3 objectInit ∈ tbw := List.mem_filter.mpr ⟨List.mem_of_getElem? (i := 125) (by decide +kernel), by decide +kernel⟩
theorem tw_98 : Cond.fieldLink RX2 9 "CongruenceLedger$Partition" "lowest" "[I" ∈ tbw := List.mem_filter.mpr ⟨List.mem_of_getElem? (i := 126) (by decide +kernel), by decide +kernel⟩
theorem tw_99 : Cond.fieldLink RX4 37 "CongruenceLedger$Partition" "lowest" "[I" ∈ tbw := List.mem_filter.mpr ⟨List.mem_of_getElem? (i := 127) (by decide +kernel), by decide +kernel⟩
theorem tw_100 : Cond.fieldLink RX5 116 "CongruenceLedger$Partition" "lowest" "[I" ∈ tbw := List.mem_filter.mpr ⟨List.mem_of_getElem? (i := 128) (by decide +kernel), by decide +kernel⟩
theorem tw_101 : Cond.laysFinal RX2 "CongruenceLedger$Partition" "lowest" "[I" ∈ tbw := List.mem_filter.mpr ⟨List.mem_of_getElem? (i := 129) (by decide +kernel), by decide +kernel⟩
theorem tw_104 : Cond.classLink RX5 45 RX4 ∈ tbw := List.mem_filter.mpr ⟨List.mem_of_getElem? (i := 132) (by decide +kernel), by decide +kernel⟩
theorem tw_105 : Cond.instantiable RX4 1 ∈ tbw := List.mem_filter.mpr ⟨List.mem_of_getElem? (i := 133) (by decide +kernel), by decide +kernel⟩
theorem tw_107 : Cond.instanceMethod yX4_init ∈ tbw := List.mem_filter.mpr ⟨List.mem_of_getElem? (i := 135) (by decide +kernel), by decide +kernel⟩
theorem tw_108 : Cond.code yX4_init cX4_init 1 none ∈ tbw := List.mem_filter.mpr ⟨List.mem_of_getElem? (i := 136) (by decide +kernel), by decide +kernel⟩
theorem tw_109 : Cond.methodLink RX4 3 objectInit ∈ tbw := List.mem_filter.mpr ⟨List.mem_of_getElem? (i := 137) (by decide +kernel), by decide +kernel⟩
theorem tw_110 : Cond.fieldLink RX4 9 "CongruenceLedger$WeightTable" "ofClass" "[J" ∈ tbw := List.mem_filter.mpr ⟨List.mem_of_getElem? (i := 138) (by decide +kernel), by decide +kernel⟩
theorem tw_111 : Cond.laysFinal RX4 "CongruenceLedger$WeightTable" "ofClass" "[J" ∈ tbw := List.mem_filter.mpr ⟨List.mem_of_getElem? (i := 139) (by decide +kernel), by decide +kernel⟩
theorem tw_114 : Cond.arrayClass .long ∈ tbw := List.mem_filter.mpr ⟨List.mem_of_getElem? (i := 142) (by decide +kernel), by decide +kernel⟩
theorem tw_115 : Cond.fieldLink RX5 10 "CongruenceLedger" "termTable" "LCongruenceLedger$TermTable;" ∈ tbw := List.mem_filter.mpr ⟨List.mem_of_getElem? (i := 143) (by decide +kernel), by decide +kernel⟩
theorem tw_116 : Cond.fieldLink RX5 21 "CongruenceLedger" "equationList" "LCongruenceLedger$PairList;" ∈ tbw := List.mem_filter.mpr ⟨List.mem_of_getElem? (i := 144) (by decide +kernel), by decide +kernel⟩
theorem tw_117 : Cond.fieldLink RX5 25 "CongruenceLedger" "disequationList" "LCongruenceLedger$PairList;" ∈ tbw := List.mem_filter.mpr ⟨List.mem_of_getElem? (i := 145) (by decide +kernel), by decide +kernel⟩
theorem tw_118 : Cond.fieldLink RX5 31 "CongruenceLedger" "levels" "LCongruenceLedger$LevelStack;" ∈ tbw := List.mem_filter.mpr ⟨List.mem_of_getElem? (i := 146) (by decide +kernel), by decide +kernel⟩
theorem tw_119 : Cond.fieldLink RX5 38 "CongruenceLedger" "current" "LCongruenceLedger$Partition;" ∈ tbw := List.mem_filter.mpr ⟨List.mem_of_getElem? (i := 147) (by decide +kernel), by decide +kernel⟩
theorem tw_120 : Cond.fieldLink RX5 42 "CongruenceLedger" "trial" "LCongruenceLedger$Partition;" ∈ tbw := List.mem_filter.mpr ⟨List.mem_of_getElem? (i := 148) (by decide +kernel), by decide +kernel⟩
theorem tw_121 : Cond.fieldLink RX5 48 "CongruenceLedger" "weights" "LCongruenceLedger$WeightTable;" ∈ tbw := List.mem_filter.mpr ⟨List.mem_of_getElem? (i := 149) (by decide +kernel), by decide +kernel⟩
theorem tw_122 : Cond.laysFinal RX5 "CongruenceLedger" "termTable" "LCongruenceLedger$TermTable;" ∈ tbw := List.mem_filter.mpr ⟨List.mem_of_getElem? (i := 150) (by decide +kernel), by decide +kernel⟩
theorem tw_124 : Cond.laysFinal RX5 "CongruenceLedger" "equationList" "LCongruenceLedger$PairList;" ∈ tbw := List.mem_filter.mpr ⟨List.mem_of_getElem? (i := 152) (by decide +kernel), by decide +kernel⟩
theorem tw_126 : Cond.laysFinal RX5 "CongruenceLedger" "disequationList" "LCongruenceLedger$PairList;" ∈ tbw := List.mem_filter.mpr ⟨List.mem_of_getElem? (i := 154) (by decide +kernel), by decide +kernel⟩
theorem tw_128 : Cond.laysFinal RX5 "CongruenceLedger" "levels" "LCongruenceLedger$LevelStack;" ∈ tbw := List.mem_filter.mpr ⟨List.mem_of_getElem? (i := 156) (by decide +kernel), by decide +kernel⟩
theorem tw_130 : Cond.laysFinal RX5 "CongruenceLedger" "current" "LCongruenceLedger$Partition;" ∈ tbw := List.mem_filter.mpr ⟨List.mem_of_getElem? (i := 158) (by decide +kernel), by decide +kernel⟩
theorem tw_132 : Cond.laysFinal RX5 "CongruenceLedger" "trial" "LCongruenceLedger$Partition;" ∈ tbw := List.mem_filter.mpr ⟨List.mem_of_getElem? (i := 160) (by decide +kernel), by decide +kernel⟩
theorem tw_134 : Cond.laysFinal RX5 "CongruenceLedger" "weights" "LCongruenceLedger$WeightTable;" ∈ tbw := List.mem_filter.mpr ⟨List.mem_of_getElem? (i := 162) (by decide +kernel), by decide +kernel⟩
theorem tw_137 : Cond.methodLink RL 13 yX5_make ∈ tbw := List.mem_filter.mpr ⟨List.mem_of_getElem? (i := 165) (by decide +kernel), by decide +kernel⟩
theorem tw_138 : Cond.instanceMethod yX5_make ∈ tbw := List.mem_filter.mpr ⟨List.mem_of_getElem? (i := 166) (by decide +kernel), by decide +kernel⟩
theorem tw_139 : Cond.selects RX5 yX5_make yX5_make ∈ tbw := List.mem_filter.mpr ⟨List.mem_of_getElem? (i := 167) (by decide +kernel), by decide +kernel⟩
theorem tw_140 : Cond.code yX5_make cX5_make 6 (some .int) ∈ tbw := List.mem_filter.mpr ⟨List.mem_of_getElem? (i := 168) (by decide +kernel), by decide +kernel⟩
theorem tw_141 : Cond.methodLink RX5 52 yX5_isShape ∈ tbw := List.mem_filter.mpr ⟨List.mem_of_getElem? (i := 169) (by decide +kernel), by decide +kernel⟩
theorem tw_143 : Cond.instanceMethod yX5_isShape ∈ tbw := List.mem_filter.mpr ⟨List.mem_of_getElem? (i := 171) (by decide +kernel), by decide +kernel⟩
theorem tw_144 : Cond.code yX5_isShape cX5_isShape 4 (some .boolean) ∈ tbw := List.mem_filter.mpr ⟨List.mem_of_getElem? (i := 172) (by decide +kernel), by decide +kernel⟩
theorem tw_145 : Cond.methodLink RX5 112 yX5_isTerm ∈ tbw := List.mem_filter.mpr ⟨List.mem_of_getElem? (i := 173) (by decide +kernel), by decide +kernel⟩
theorem tw_147 : Cond.instanceMethod yX5_isTerm ∈ tbw := List.mem_filter.mpr ⟨List.mem_of_getElem? (i := 175) (by decide +kernel), by decide +kernel⟩
theorem tw_148 : Cond.code yX5_isTerm cX5_isTerm 2 (some .boolean) ∈ tbw := List.mem_filter.mpr ⟨List.mem_of_getElem? (i := 176) (by decide +kernel), by decide +kernel⟩
theorem tw_149 : Cond.methodLink RX5 56 yX3_numberOf ∈ tbw := List.mem_filter.mpr ⟨List.mem_of_getElem? (i := 177) (by decide +kernel), by decide +kernel⟩
theorem tw_150 : Cond.instanceMethod yX3_numberOf ∈ tbw := List.mem_filter.mpr ⟨List.mem_of_getElem? (i := 178) (by decide +kernel), by decide +kernel⟩
theorem tw_151 : Cond.selects RX3 yX3_numberOf yX3_numberOf ∈ tbw := List.mem_filter.mpr ⟨List.mem_of_getElem? (i := 179) (by decide +kernel), by decide +kernel⟩
theorem tw_152 : Cond.code yX3_numberOf cX3_numberOf 5 (some .int) ∈ tbw := List.mem_filter.mpr ⟨List.mem_of_getElem? (i := 180) (by decide +kernel), by decide +kernel⟩
theorem tw_153 : Cond.methodLink RX5 64 yX3_add ∈ tbw := List.mem_filter.mpr ⟨List.mem_of_getElem? (i := 181) (by decide +kernel), by decide +kernel⟩
theorem tw_154 : Cond.instanceMethod yX3_add ∈ tbw := List.mem_filter.mpr ⟨List.mem_of_getElem? (i := 182) (by decide +kernel), by decide +kernel⟩
theorem tw_155 : Cond.selects RX3 yX3_add yX3_add ∈ tbw := List.mem_filter.mpr ⟨List.mem_of_getElem? (i := 183) (by decide +kernel), by decide +kernel⟩
theorem tw_156 : Cond.code yX3_add cX3_add 4 (some .int) ∈ tbw := List.mem_filter.mpr ⟨List.mem_of_getElem? (i := 184) (by decide +kernel), by decide +kernel⟩
theorem tw_157 : Cond.methodLink RX5 67 yX5_settleCurrent ∈ tbw := List.mem_filter.mpr ⟨List.mem_of_getElem? (i := 185) (by decide +kernel), by decide +kernel⟩
theorem tw_159 : Cond.instanceMethod yX5_settleCurrent ∈ tbw := List.mem_filter.mpr ⟨List.mem_of_getElem? (i := 187) (by decide +kernel), by decide +kernel⟩
theorem tw_160 : Cond.code yX5_settleCurrent cX5_settleCurrent 1 none ∈ tbw := List.mem_filter.mpr ⟨List.mem_of_getElem? (i := 188) (by decide +kernel), by decide +kernel⟩
theorem tw_161 : Cond.methodLink RX5 123 yX5_allBelow ∈ tbw := List.mem_filter.mpr ⟨List.mem_of_getElem? (i := 189) (by decide +kernel), by decide +kernel⟩
theorem tw_162 : Cond.static yX5_allBelow ∈ tbw := List.mem_filter.mpr ⟨List.mem_of_getElem? (i := 190) (by decide +kernel), by decide +kernel⟩
theorem tw_163 : Cond.code yX5_allBelow cX5_allBelow 1 (some .int) ∈ tbw := List.mem_filter.mpr ⟨List.mem_of_getElem? (i := 191) (by decide +kernel), by decide +kernel⟩
theorem tw_164 : Cond.methodLink RX5 145 yX2_settle ∈ tbw := List.mem_filter.mpr ⟨List.mem_of_getElem? (i := 192) (by decide +kernel), by decide +kernel⟩
theorem tw_165 : Cond.instanceMethod yX2_settle ∈ tbw := List.mem_filter.mpr ⟨List.mem_of_getElem? (i := 193) (by decide +kernel), by decide +kernel⟩
theorem tw_166 : Cond.selects RX2 yX2_settle yX2_settle ∈ tbw := List.mem_filter.mpr ⟨List.mem_of_getElem? (i := 194) (by decide +kernel), by decide +kernel⟩
theorem tw_167 : Cond.code yX2_settle cX2_settle 6 none ∈ tbw := List.mem_filter.mpr ⟨List.mem_of_getElem? (i := 195) (by decide +kernel), by decide +kernel⟩
theorem tw_168 : Cond.methodLink RX2 46 yX2_merge ∈ tbw := List.mem_filter.mpr ⟨List.mem_of_getElem? (i := 196) (by decide +kernel), by decide +kernel⟩
theorem tw_170 : Cond.instanceMethod yX2_merge ∈ tbw := List.mem_filter.mpr ⟨List.mem_of_getElem? (i := 198) (by decide +kernel), by decide +kernel⟩
theorem tw_171 : Cond.code yX2_merge cX2_merge 7 none ∈ tbw := List.mem_filter.mpr ⟨List.mem_of_getElem? (i := 199) (by decide +kernel), by decide +kernel⟩
theorem tw_172 : Cond.methodLink RX2 62 Lib.Math.min.name ∈ tbw := List.mem_filter.mpr ⟨List.mem_of_getElem? (i := 200) (by decide +kernel), by decide +kernel⟩
theorem tw_173 : Cond.static Lib.Math.min.name ∈ tbw := List.mem_filter.mpr ⟨List.mem_of_getElem? (i := 201) (by decide +kernel), by decide +kernel⟩
theorem tw_174 : Cond.code Lib.Math.min.name Lib.Math.min.code 2 (some .int) ∈ tbw := List.mem_filter.mpr ⟨List.mem_of_getElem? (i := 202) (by decide +kernel), by decide +kernel⟩
theorem tw_175 : Cond.methodLink RX2 68 Lib.Math.max.name ∈ tbw := List.mem_filter.mpr ⟨List.mem_of_getElem? (i := 203) (by decide +kernel), by decide +kernel⟩
theorem tw_176 : Cond.static Lib.Math.max.name ∈ tbw := List.mem_filter.mpr ⟨List.mem_of_getElem? (i := 204) (by decide +kernel), by decide +kernel⟩
theorem tw_177 : Cond.code Lib.Math.max.name Lib.Math.max.code 2 (some .int) ∈ tbw := List.mem_filter.mpr ⟨List.mem_of_getElem? (i := 205) (by decide +kernel), by decide +kernel⟩
theorem tw_178 : Cond.methodLink RX2 50 yX2_mergeCongruent ∈ tbw := List.mem_filter.mpr ⟨List.mem_of_getElem? (i := 206) (by decide +kernel), by decide +kernel⟩
theorem tw_180 : Cond.instanceMethod yX2_mergeCongruent ∈ tbw := List.mem_filter.mpr ⟨List.mem_of_getElem? (i := 208) (by decide +kernel), by decide +kernel⟩
theorem tw_181 : Cond.code yX2_mergeCongruent cX2_mergeCongruent 5 (some .boolean) ∈ tbw := List.mem_filter.mpr ⟨List.mem_of_getElem? (i := 209) (by decide +kernel), by decide +kernel⟩
theorem tw_182 : Cond.methodLink RX2 30 yX2_joins ∈ tbw := List.mem_filter.mpr ⟨List.mem_of_getElem? (i := 210) (by decide +kernel), by decide +kernel⟩
theorem tw_183 : Cond.instanceMethod yX2_joins ∈ tbw := List.mem_filter.mpr ⟨List.mem_of_getElem? (i := 211) (by decide +kernel), by decide +kernel⟩
theorem tw_184 : Cond.selects RX2 yX2_joins yX2_joins ∈ tbw := List.mem_filter.mpr ⟨List.mem_of_getElem? (i := 212) (by decide +kernel), by decide +kernel⟩
theorem tw_185 : Cond.code yX2_joins cX2_joins 3 (some .boolean) ∈ tbw := List.mem_filter.mpr ⟨List.mem_of_getElem? (i := 213) (by decide +kernel), by decide +kernel⟩
theorem tw_186 : Cond.methodLink RX2 54 yX2_congruent ∈ tbw := List.mem_filter.mpr ⟨List.mem_of_getElem? (i := 214) (by decide +kernel), by decide +kernel⟩
theorem tw_188 : Cond.instanceMethod yX2_congruent ∈ tbw := List.mem_filter.mpr ⟨List.mem_of_getElem? (i := 216) (by decide +kernel), by decide +kernel⟩
theorem tw_189 : Cond.code yX2_congruent cX2_congruent 4 (some .boolean) ∈ tbw := List.mem_filter.mpr ⟨List.mem_of_getElem? (i := 217) (by decide +kernel), by decide +kernel⟩
theorem tw_190 : Cond.methodLink RX2 58 yX2_fits ∈ tbw := List.mem_filter.mpr ⟨List.mem_of_getElem? (i := 218) (by decide +kernel), by decide +kernel⟩
theorem tw_191 : Cond.instanceMethod yX2_fits ∈ tbw := List.mem_filter.mpr ⟨List.mem_of_getElem? (i := 219) (by decide +kernel), by decide +kernel⟩
theorem tw_192 : Cond.selects RX2 yX2_fits yX2_fits ∈ tbw := List.mem_filter.mpr ⟨List.mem_of_getElem? (i := 220) (by decide +kernel), by decide +kernel⟩
theorem tw_193 : Cond.code yX2_fits cX2_fits 6 (some .boolean) ∈ tbw := List.mem_filter.mpr ⟨List.mem_of_getElem? (i := 221) (by decide +kernel), by decide +kernel⟩
theorem tw_194 : Cond.methodLink RX2 23 yX2_sameArgument ∈ tbw := List.mem_filter.mpr ⟨List.mem_of_getElem? (i := 222) (by decide +kernel), by decide +kernel⟩
theorem tw_196 : Cond.instanceMethod yX2_sameArgument ∈ tbw := List.mem_filter.mpr ⟨List.mem_of_getElem? (i := 224) (by decide +kernel), by decide +kernel⟩
theorem tw_197 : Cond.code yX2_sameArgument cX2_sameArgument 3 (some .boolean) ∈ tbw := List.mem_filter.mpr ⟨List.mem_of_getElem? (i := 225) (by decide +kernel), by decide +kernel⟩
theorem tw_198 : Cond.methodLink RL 18 yX5_equate ∈ tbw := List.mem_filter.mpr ⟨List.mem_of_getElem? (i := 226) (by decide +kernel), by decide +kernel⟩
theorem tw_199 : Cond.instanceMethod yX5_equate ∈ tbw := List.mem_filter.mpr ⟨List.mem_of_getElem? (i := 227) (by decide +kernel), by decide +kernel⟩
theorem tw_200 : Cond.selects RX5 yX5_equate yX5_equate ∈ tbw := List.mem_filter.mpr ⟨List.mem_of_getElem? (i := 228) (by decide +kernel), by decide +kernel⟩
theorem tw_201 : Cond.code yX5_equate cX5_equate 4 (some .int) ∈ tbw := List.mem_filter.mpr ⟨List.mem_of_getElem? (i := 229) (by decide +kernel), by decide +kernel⟩
theorem tw_202 : Cond.methodLink RX5 70 yX5_areTerms ∈ tbw := List.mem_filter.mpr ⟨List.mem_of_getElem? (i := 230) (by decide +kernel), by decide +kernel⟩
theorem tw_204 : Cond.instanceMethod yX5_areTerms ∈ tbw := List.mem_filter.mpr ⟨List.mem_of_getElem? (i := 232) (by decide +kernel), by decide +kernel⟩
theorem tw_205 : Cond.code yX5_areTerms cX5_areTerms 3 (some .boolean) ∈ tbw := List.mem_filter.mpr ⟨List.mem_of_getElem? (i := 233) (by decide +kernel), by decide +kernel⟩
theorem tw_206 : Cond.methodLink RX5 74 yX1_isFull ∈ tbw := List.mem_filter.mpr ⟨List.mem_of_getElem? (i := 234) (by decide +kernel), by decide +kernel⟩
theorem tw_207 : Cond.instanceMethod yX1_isFull ∈ tbw := List.mem_filter.mpr ⟨List.mem_of_getElem? (i := 235) (by decide +kernel), by decide +kernel⟩
theorem tw_208 : Cond.selects RX1 yX1_isFull yX1_isFull ∈ tbw := List.mem_filter.mpr ⟨List.mem_of_getElem? (i := 236) (by decide +kernel), by decide +kernel⟩
theorem tw_209 : Cond.code yX1_isFull cX1_isFull 1 (some .boolean) ∈ tbw := List.mem_filter.mpr ⟨List.mem_of_getElem? (i := 237) (by decide +kernel), by decide +kernel⟩
theorem tw_210 : Cond.methodLink RX5 78 yX2_classCount ∈ tbw := List.mem_filter.mpr ⟨List.mem_of_getElem? (i := 238) (by decide +kernel), by decide +kernel⟩
theorem tw_211 : Cond.instanceMethod yX2_classCount ∈ tbw := List.mem_filter.mpr ⟨List.mem_of_getElem? (i := 239) (by decide +kernel), by decide +kernel⟩
theorem tw_212 : Cond.selects RX2 yX2_classCount yX2_classCount ∈ tbw := List.mem_filter.mpr ⟨List.mem_of_getElem? (i := 240) (by decide +kernel), by decide +kernel⟩
theorem tw_213 : Cond.code yX2_classCount cX2_classCount 4 (some .int) ∈ tbw := List.mem_filter.mpr ⟨List.mem_of_getElem? (i := 241) (by decide +kernel), by decide +kernel⟩
theorem tw_214 : Cond.methodLink RX5 82 yX1_add ∈ tbw := List.mem_filter.mpr ⟨List.mem_of_getElem? (i := 242) (by decide +kernel), by decide +kernel⟩
theorem tw_215 : Cond.instanceMethod yX1_add ∈ tbw := List.mem_filter.mpr ⟨List.mem_of_getElem? (i := 243) (by decide +kernel), by decide +kernel⟩
theorem tw_216 : Cond.selects RX1 yX1_add yX1_add ∈ tbw := List.mem_filter.mpr ⟨List.mem_of_getElem? (i := 244) (by decide +kernel), by decide +kernel⟩
theorem tw_217 : Cond.code yX1_add cX1_add 3 (some .int) ∈ tbw := List.mem_filter.mpr ⟨List.mem_of_getElem? (i := 245) (by decide +kernel), by decide +kernel⟩
theorem tw_218 : Cond.methodLink RL 23 yX5_differ ∈ tbw := List.mem_filter.mpr ⟨List.mem_of_getElem? (i := 246) (by decide +kernel), by decide +kernel⟩
theorem tw_219 : Cond.instanceMethod yX5_differ ∈ tbw := List.mem_filter.mpr ⟨List.mem_of_getElem? (i := 247) (by decide +kernel), by decide +kernel⟩
theorem tw_220 : Cond.selects RX5 yX5_differ yX5_differ ∈ tbw := List.mem_filter.mpr ⟨List.mem_of_getElem? (i := 248) (by decide +kernel), by decide +kernel⟩
theorem tw_221 : Cond.code yX5_differ cX5_differ 3 (some .int) ∈ tbw := List.mem_filter.mpr ⟨List.mem_of_getElem? (i := 249) (by decide +kernel), by decide +kernel⟩
theorem tw_222 : Cond.methodLink RL 27 yX5_open ∈ tbw := List.mem_filter.mpr ⟨List.mem_of_getElem? (i := 250) (by decide +kernel), by decide +kernel⟩
theorem tw_223 : Cond.instanceMethod yX5_open ∈ tbw := List.mem_filter.mpr ⟨List.mem_of_getElem? (i := 251) (by decide +kernel), by decide +kernel⟩
theorem tw_224 : Cond.selects RX5 yX5_open yX5_open ∈ tbw := List.mem_filter.mpr ⟨List.mem_of_getElem? (i := 252) (by decide +kernel), by decide +kernel⟩
theorem tw_225 : Cond.code yX5_open cX5_open 1 (some .int) ∈ tbw := List.mem_filter.mpr ⟨List.mem_of_getElem? (i := 253) (by decide +kernel), by decide +kernel⟩
theorem tw_226 : Cond.methodLink RX5 89 yX0_push ∈ tbw := List.mem_filter.mpr ⟨List.mem_of_getElem? (i := 254) (by decide +kernel), by decide +kernel⟩
theorem tw_227 : Cond.instanceMethod yX0_push ∈ tbw := List.mem_filter.mpr ⟨List.mem_of_getElem? (i := 255) (by decide +kernel), by decide +kernel⟩
theorem tw_228 : Cond.selects RX0 yX0_push yX0_push ∈ tbw := List.mem_filter.mpr ⟨List.mem_of_getElem? (i := 256) (by decide +kernel), by decide +kernel⟩
theorem tw_229 : Cond.code yX0_push cX0_push 4 none ∈ tbw := List.mem_filter.mpr ⟨List.mem_of_getElem? (i := 257) (by decide +kernel), by decide +kernel⟩
theorem tw_230 : Cond.methodLink RL 32 yX5_close ∈ tbw := List.mem_filter.mpr ⟨List.mem_of_getElem? (i := 258) (by decide +kernel), by decide +kernel⟩
theorem tw_231 : Cond.instanceMethod yX5_close ∈ tbw := List.mem_filter.mpr ⟨List.mem_of_getElem? (i := 259) (by decide +kernel), by decide +kernel⟩
theorem tw_232 : Cond.selects RX5 yX5_close yX5_close ∈ tbw := List.mem_filter.mpr ⟨List.mem_of_getElem? (i := 260) (by decide +kernel), by decide +kernel⟩
theorem tw_233 : Cond.code yX5_close cX5_close 1 (some .int) ∈ tbw := List.mem_filter.mpr ⟨List.mem_of_getElem? (i := 261) (by decide +kernel), by decide +kernel⟩
theorem tw_234 : Cond.methodLink RL 36 yX5_equal ∈ tbw := List.mem_filter.mpr ⟨List.mem_of_getElem? (i := 262) (by decide +kernel), by decide +kernel⟩
theorem tw_235 : Cond.instanceMethod yX5_equal ∈ tbw := List.mem_filter.mpr ⟨List.mem_of_getElem? (i := 263) (by decide +kernel), by decide +kernel⟩
theorem tw_236 : Cond.selects RX5 yX5_equal yX5_equal ∈ tbw := List.mem_filter.mpr ⟨List.mem_of_getElem? (i := 264) (by decide +kernel), by decide +kernel⟩
theorem tw_237 : Cond.code yX5_equal cX5_equal 3 (some .int) ∈ tbw := List.mem_filter.mpr ⟨List.mem_of_getElem? (i := 265) (by decide +kernel), by decide +kernel⟩
theorem tw_238 : Cond.methodLink RX5 103 yX2_joins ∈ tbw := List.mem_filter.mpr ⟨List.mem_of_getElem? (i := 266) (by decide +kernel), by decide +kernel⟩
theorem tw_239 : Cond.methodLink RL 40 yX5_apart ∈ tbw := List.mem_filter.mpr ⟨List.mem_of_getElem? (i := 267) (by decide +kernel), by decide +kernel⟩
theorem tw_240 : Cond.instanceMethod yX5_apart ∈ tbw := List.mem_filter.mpr ⟨List.mem_of_getElem? (i := 268) (by decide +kernel), by decide +kernel⟩
theorem tw_241 : Cond.selects RX5 yX5_apart yX5_apart ∈ tbw := List.mem_filter.mpr ⟨List.mem_of_getElem? (i := 269) (by decide +kernel), by decide +kernel⟩
theorem tw_242 : Cond.code yX5_apart cX5_apart 8 (some .int) ∈ tbw := List.mem_filter.mpr ⟨List.mem_of_getElem? (i := 270) (by decide +kernel), by decide +kernel⟩
theorem tw_243 : Cond.methodLink RL 44 yX5_consistent ∈ tbw := List.mem_filter.mpr ⟨List.mem_of_getElem? (i := 271) (by decide +kernel), by decide +kernel⟩
theorem tw_244 : Cond.instanceMethod yX5_consistent ∈ tbw := List.mem_filter.mpr ⟨List.mem_of_getElem? (i := 272) (by decide +kernel), by decide +kernel⟩
theorem tw_245 : Cond.selects RX5 yX5_consistent yX5_consistent ∈ tbw := List.mem_filter.mpr ⟨List.mem_of_getElem? (i := 273) (by decide +kernel), by decide +kernel⟩
theorem tw_246 : Cond.code yX5_consistent cX5_consistent 2 (some .boolean) ∈ tbw := List.mem_filter.mpr ⟨List.mem_of_getElem? (i := 274) (by decide +kernel), by decide +kernel⟩
theorem tw_247 : Cond.methodLink RL 49 yX5_leader ∈ tbw := List.mem_filter.mpr ⟨List.mem_of_getElem? (i := 275) (by decide +kernel), by decide +kernel⟩
theorem tw_248 : Cond.instanceMethod yX5_leader ∈ tbw := List.mem_filter.mpr ⟨List.mem_of_getElem? (i := 276) (by decide +kernel), by decide +kernel⟩
theorem tw_249 : Cond.selects RX5 yX5_leader yX5_leader ∈ tbw := List.mem_filter.mpr ⟨List.mem_of_getElem? (i := 277) (by decide +kernel), by decide +kernel⟩
theorem tw_250 : Cond.code yX5_leader cX5_leader 2 (some .int) ∈ tbw := List.mem_filter.mpr ⟨List.mem_of_getElem? (i := 278) (by decide +kernel), by decide +kernel⟩
theorem tw_251 : Cond.methodLink RL 54 yX5_members ∈ tbw := List.mem_filter.mpr ⟨List.mem_of_getElem? (i := 279) (by decide +kernel), by decide +kernel⟩
theorem tw_252 : Cond.instanceMethod yX5_members ∈ tbw := List.mem_filter.mpr ⟨List.mem_of_getElem? (i := 280) (by decide +kernel), by decide +kernel⟩
theorem tw_253 : Cond.selects RX5 yX5_members yX5_members ∈ tbw := List.mem_filter.mpr ⟨List.mem_of_getElem? (i := 281) (by decide +kernel), by decide +kernel⟩
theorem tw_254 : Cond.code yX5_members cX5_members 4 (some .int) ∈ tbw := List.mem_filter.mpr ⟨List.mem_of_getElem? (i := 282) (by decide +kernel), by decide +kernel⟩
theorem tw_255 : Cond.methodLink RL 58 yX5_classes ∈ tbw := List.mem_filter.mpr ⟨List.mem_of_getElem? (i := 283) (by decide +kernel), by decide +kernel⟩
theorem tw_256 : Cond.instanceMethod yX5_classes ∈ tbw := List.mem_filter.mpr ⟨List.mem_of_getElem? (i := 284) (by decide +kernel), by decide +kernel⟩
theorem tw_257 : Cond.selects RX5 yX5_classes yX5_classes ∈ tbw := List.mem_filter.mpr ⟨List.mem_of_getElem? (i := 285) (by decide +kernel), by decide +kernel⟩
theorem tw_258 : Cond.code yX5_classes cX5_classes 1 (some .int) ∈ tbw := List.mem_filter.mpr ⟨List.mem_of_getElem? (i := 286) (by decide +kernel), by decide +kernel⟩
theorem tw_259 : Cond.methodLink RL 62 yX5_find ∈ tbw := List.mem_filter.mpr ⟨List.mem_of_getElem? (i := 287) (by decide +kernel), by decide +kernel⟩
theorem tw_260 : Cond.instanceMethod yX5_find ∈ tbw := List.mem_filter.mpr ⟨List.mem_of_getElem? (i := 288) (by decide +kernel), by decide +kernel⟩
theorem tw_261 : Cond.selects RX5 yX5_find yX5_find ∈ tbw := List.mem_filter.mpr ⟨List.mem_of_getElem? (i := 289) (by decide +kernel), by decide +kernel⟩
theorem tw_262 : Cond.code yX5_find cX5_find 5 (some .int) ∈ tbw := List.mem_filter.mpr ⟨List.mem_of_getElem? (i := 290) (by decide +kernel), by decide +kernel⟩
theorem tw_263 : Cond.methodLink RX5 119 yX2_fits ∈ tbw := List.mem_filter.mpr ⟨List.mem_of_getElem? (i := 291) (by decide +kernel), by decide +kernel⟩
theorem tw_264 : Cond.methodLink RL 66 yX5_since ∈ tbw := List.mem_filter.mpr ⟨List.mem_of_getElem? (i := 292) (by decide +kernel), by decide +kernel⟩
theorem tw_265 : Cond.instanceMethod yX5_since ∈ tbw := List.mem_filter.mpr ⟨List.mem_of_getElem? (i := 293) (by decide +kernel), by decide +kernel⟩
theorem tw_266 : Cond.selects RX5 yX5_since yX5_since ∈ tbw := List.mem_filter.mpr ⟨List.mem_of_getElem? (i := 294) (by decide +kernel), by decide +kernel⟩
theorem tw_267 : Cond.code yX5_since cX5_since 4 (some .int) ∈ tbw := List.mem_filter.mpr ⟨List.mem_of_getElem? (i := 295) (by decide +kernel), by decide +kernel⟩
theorem tw_268 : Cond.methodLink RX5 126 yX5_followsFrom ∈ tbw := List.mem_filter.mpr ⟨List.mem_of_getElem? (i := 296) (by decide +kernel), by decide +kernel⟩
theorem tw_270 : Cond.instanceMethod yX5_followsFrom ∈ tbw := List.mem_filter.mpr ⟨List.mem_of_getElem? (i := 298) (by decide +kernel), by decide +kernel⟩
theorem tw_271 : Cond.code yX5_followsFrom cX5_followsFrom 4 (some .boolean) ∈ tbw := List.mem_filter.mpr ⟨List.mem_of_getElem? (i := 299) (by decide +kernel), by decide +kernel⟩
theorem tw_272 : Cond.methodLink RL 70 yX5_explanation ∈ tbw := List.mem_filter.mpr ⟨List.mem_of_getElem? (i := 300) (by decide +kernel), by decide +kernel⟩
theorem tw_273 : Cond.instanceMethod yX5_explanation ∈ tbw := List.mem_filter.mpr ⟨List.mem_of_getElem? (i := 301) (by decide +kernel), by decide +kernel⟩
theorem tw_274 : Cond.selects RX5 yX5_explanation yX5_explanation ∈ tbw := List.mem_filter.mpr ⟨List.mem_of_getElem? (i := 302) (by decide +kernel), by decide +kernel⟩
theorem tw_275 : Cond.code yX5_explanation cX5_explanation 5 (some .int) ∈ tbw := List.mem_filter.mpr ⟨List.mem_of_getElem? (i := 303) (by decide +kernel), by decide +kernel⟩
theorem tw_276 : Cond.methodLink RL 74 yX5_needed ∈ tbw := List.mem_filter.mpr ⟨List.mem_of_getElem? (i := 304) (by decide +kernel), by decide +kernel⟩
theorem tw_277 : Cond.instanceMethod yX5_needed ∈ tbw := List.mem_filter.mpr ⟨List.mem_of_getElem? (i := 305) (by decide +kernel), by decide +kernel⟩
theorem tw_278 : Cond.selects RX5 yX5_needed yX5_needed ∈ tbw := List.mem_filter.mpr ⟨List.mem_of_getElem? (i := 306) (by decide +kernel), by decide +kernel⟩
theorem tw_279 : Cond.code yX5_needed cX5_needed 6 (some .int) ∈ tbw := List.mem_filter.mpr ⟨List.mem_of_getElem? (i := 307) (by decide +kernel), by decide +kernel⟩
theorem tw_280 : Cond.methodLink RL 78 yX5_weight ∈ tbw := List.mem_filter.mpr ⟨List.mem_of_getElem? (i := 308) (by decide +kernel), by decide +kernel⟩
theorem tw_281 : Cond.instanceMethod yX5_weight ∈ tbw := List.mem_filter.mpr ⟨List.mem_of_getElem? (i := 309) (by decide +kernel), by decide +kernel⟩
theorem tw_282 : Cond.selects RX5 yX5_weight yX5_weight ∈ tbw := List.mem_filter.mpr ⟨List.mem_of_getElem? (i := 310) (by decide +kernel), by decide +kernel⟩
theorem tw_283 : Cond.code yX5_weight cX5_weight 2 (some .long) ∈ tbw := List.mem_filter.mpr ⟨List.mem_of_getElem? (i := 311) (by decide +kernel), by decide +kernel⟩
theorem tw_284 : Cond.methodLink RX5 129 yX4_weigh ∈ tbw := List.mem_filter.mpr ⟨List.mem_of_getElem? (i := 312) (by decide +kernel), by decide +kernel⟩
theorem tw_285 : Cond.instanceMethod yX4_weigh ∈ tbw := List.mem_filter.mpr ⟨List.mem_of_getElem? (i := 313) (by decide +kernel), by decide +kernel⟩
theorem tw_286 : Cond.selects RX4 yX4_weigh yX4_weigh ∈ tbw := List.mem_filter.mpr ⟨List.mem_of_getElem? (i := 314) (by decide +kernel), by decide +kernel⟩
theorem tw_287 : Cond.code yX4_weigh cX4_weigh 5 none ∈ tbw := List.mem_filter.mpr ⟨List.mem_of_getElem? (i := 315) (by decide +kernel), by decide +kernel⟩
theorem tw_288 : Cond.constantLong RX4 15 1152921504606846976 ∈ tbw := List.mem_filter.mpr ⟨List.mem_of_getElem? (i := 316) (by decide +kernel), by decide +kernel⟩
theorem tw_289 : Cond.methodLink RX4 17 yAr_fill ∈ tbw := List.mem_filter.mpr ⟨List.mem_of_getElem? (i := 317) (by decide +kernel), by decide +kernel⟩
theorem tw_290 : Cond.static yAr_fill ∈ tbw := List.mem_filter.mpr ⟨List.mem_of_getElem? (i := 318) (by decide +kernel), by decide +kernel⟩
theorem tw_291 : Cond.code yAr_fill cAr_fill 5 none ∈ tbw := List.mem_filter.mpr ⟨List.mem_of_getElem? (i := 319) (by decide +kernel), by decide +kernel⟩
theorem tw_292 : Cond.methodLink RX4 29 yX4_lower ∈ tbw := List.mem_filter.mpr ⟨List.mem_of_getElem? (i := 320) (by decide +kernel), by decide +kernel⟩
theorem tw_294 : Cond.instanceMethod yX4_lower ∈ tbw := List.mem_filter.mpr ⟨List.mem_of_getElem? (i := 322) (by decide +kernel), by decide +kernel⟩
theorem tw_295 : Cond.code yX4_lower cX4_lower 7 (some .boolean) ∈ tbw := List.mem_filter.mpr ⟨List.mem_of_getElem? (i := 323) (by decide +kernel), by decide +kernel⟩
theorem tw_296 : Cond.methodLink RX4 33 yX4_costOf ∈ tbw := List.mem_filter.mpr ⟨List.mem_of_getElem? (i := 324) (by decide +kernel), by decide +kernel⟩
theorem tw_298 : Cond.instanceMethod yX4_costOf ∈ tbw := List.mem_filter.mpr ⟨List.mem_of_getElem? (i := 326) (by decide +kernel), by decide +kernel⟩
theorem tw_299 : Cond.code yX4_costOf cX4_costOf 4 (some .long) ∈ tbw := List.mem_filter.mpr ⟨List.mem_of_getElem? (i := 327) (by decide +kernel), by decide +kernel⟩
theorem tw_300 : Cond.methodLink RX4 46 yX4_ofArgument ∈ tbw := List.mem_filter.mpr ⟨List.mem_of_getElem? (i := 328) (by decide +kernel), by decide +kernel⟩
theorem tw_302 : Cond.instanceMethod yX4_ofArgument ∈ tbw := List.mem_filter.mpr ⟨List.mem_of_getElem? (i := 330) (by decide +kernel), by decide +kernel⟩
theorem tw_303 : Cond.code yX4_ofArgument cX4_ofArgument 3 (some .long) ∈ tbw := List.mem_filter.mpr ⟨List.mem_of_getElem? (i := 331) (by decide +kernel), by decide +kernel⟩
theorem tw_304 : Cond.methodLink RX4 53 yX4_ofTerm ∈ tbw := List.mem_filter.mpr ⟨List.mem_of_getElem? (i := 332) (by decide +kernel), by decide +kernel⟩
theorem tw_305 : Cond.instanceMethod yX4_ofTerm ∈ tbw := List.mem_filter.mpr ⟨List.mem_of_getElem? (i := 333) (by decide +kernel), by decide +kernel⟩
theorem tw_306 : Cond.selects RX4 yX4_ofTerm yX4_ofTerm ∈ tbw := List.mem_filter.mpr ⟨List.mem_of_getElem? (i := 334) (by decide +kernel), by decide +kernel⟩
theorem tw_307 : Cond.code yX4_ofTerm cX4_ofTerm 3 (some .long) ∈ tbw := List.mem_filter.mpr ⟨List.mem_of_getElem? (i := 335) (by decide +kernel), by decide +kernel⟩
theorem tw_308 : Cond.methodLink RX5 133 yX4_ofTerm ∈ tbw := List.mem_filter.mpr ⟨List.mem_of_getElem? (i := 336) (by decide +kernel), by decide +kernel⟩
theorem tw_309 : Cond.methodLink RL 83 yX5_best ∈ tbw := List.mem_filter.mpr ⟨List.mem_of_getElem? (i := 337) (by decide +kernel), by decide +kernel⟩
theorem tw_310 : Cond.instanceMethod yX5_best ∈ tbw := List.mem_filter.mpr ⟨List.mem_of_getElem? (i := 338) (by decide +kernel), by decide +kernel⟩
theorem tw_311 : Cond.selects RX5 yX5_best yX5_best ∈ tbw := List.mem_filter.mpr ⟨List.mem_of_getElem? (i := 339) (by decide +kernel), by decide +kernel⟩
theorem tw_312 : Cond.code yX5_best cX5_best 2 (some .int) ∈ tbw := List.mem_filter.mpr ⟨List.mem_of_getElem? (i := 340) (by decide +kernel), by decide +kernel⟩
theorem tw_313 : Cond.methodLink RX5 137 yX4_lightest ∈ tbw := List.mem_filter.mpr ⟨List.mem_of_getElem? (i := 341) (by decide +kernel), by decide +kernel⟩
theorem tw_314 : Cond.instanceMethod yX4_lightest ∈ tbw := List.mem_filter.mpr ⟨List.mem_of_getElem? (i := 342) (by decide +kernel), by decide +kernel⟩
theorem tw_315 : Cond.selects RX4 yX4_lightest yX4_lightest ∈ tbw := List.mem_filter.mpr ⟨List.mem_of_getElem? (i := 343) (by decide +kernel), by decide +kernel⟩
theorem tw_316 : Cond.code yX4_lightest cX4_lightest 5 (some .int) ∈ tbw := List.mem_filter.mpr ⟨List.mem_of_getElem? (i := 344) (by decide +kernel), by decide +kernel⟩
theorem tw_317 : Cond.methodLink RX4 56 yX2_joins ∈ tbw := List.mem_filter.mpr ⟨List.mem_of_getElem? (i := 345) (by decide +kernel), by decide +kernel⟩
theorem tw_318 : Cond.methodLink RL 87 yX5_written ∈ tbw := List.mem_filter.mpr ⟨List.mem_of_getElem? (i := 346) (by decide +kernel), by decide +kernel⟩
theorem tw_319 : Cond.instanceMethod yX5_written ∈ tbw := List.mem_filter.mpr ⟨List.mem_of_getElem? (i := 347) (by decide +kernel), by decide +kernel⟩
theorem tw_320 : Cond.selects RX5 yX5_written yX5_written ∈ tbw := List.mem_filter.mpr ⟨List.mem_of_getElem? (i := 348) (by decide +kernel), by decide +kernel⟩
theorem tw_321 : Cond.code yX5_written cX5_written 3 (some .int) ∈ tbw := List.mem_filter.mpr ⟨List.mem_of_getElem? (i := 349) (by decide +kernel), by decide +kernel⟩
theorem tw_322 : Cond.methodLink RX5 141 yX4_symbolAt ∈ tbw := List.mem_filter.mpr ⟨List.mem_of_getElem? (i := 350) (by decide +kernel), by decide +kernel⟩
theorem tw_323 : Cond.instanceMethod yX4_symbolAt ∈ tbw := List.mem_filter.mpr ⟨List.mem_of_getElem? (i := 351) (by decide +kernel), by decide +kernel⟩
theorem tw_324 : Cond.selects RX4 yX4_symbolAt yX4_symbolAt ∈ tbw := List.mem_filter.mpr ⟨List.mem_of_getElem? (i := 352) (by decide +kernel), by decide +kernel⟩
theorem tw_325 : Cond.code yX4_symbolAt cX4_symbolAt 12 (some .int) ∈ tbw := List.mem_filter.mpr ⟨List.mem_of_getElem? (i := 353) (by decide +kernel), by decide +kernel⟩
theorem tw_326 : Cond.methodLink RX4 60 yX4_lightest ∈ tbw := List.mem_filter.mpr ⟨List.mem_of_getElem? (i := 354) (by decide +kernel), by decide +kernel⟩
theorem tw_327 : Cond.methodLink RL 91 yX5_terms ∈ tbw := List.mem_filter.mpr ⟨List.mem_of_getElem? (i := 355) (by decide +kernel), by decide +kernel⟩
theorem tw_328 : Cond.instanceMethod yX5_terms ∈ tbw := List.mem_filter.mpr ⟨List.mem_of_getElem? (i := 356) (by decide +kernel), by decide +kernel⟩
theorem tw_329 : Cond.selects RX5 yX5_terms yX5_terms ∈ tbw := List.mem_filter.mpr ⟨List.mem_of_getElem? (i := 357) (by decide +kernel), by decide +kernel⟩
theorem tw_330 : Cond.code yX5_terms cX5_terms 1 (some .int) ∈ tbw := List.mem_filter.mpr ⟨List.mem_of_getElem? (i := 358) (by decide +kernel), by decide +kernel⟩
theorem tw_331 : Cond.methodLink RL 95 yX5_equations ∈ tbw := List.mem_filter.mpr ⟨List.mem_of_getElem? (i := 359) (by decide +kernel), by decide +kernel⟩
theorem tw_332 : Cond.instanceMethod yX5_equations ∈ tbw := List.mem_filter.mpr ⟨List.mem_of_getElem? (i := 360) (by decide +kernel), by decide +kernel⟩
theorem tw_333 : Cond.selects RX5 yX5_equations yX5_equations ∈ tbw := List.mem_filter.mpr ⟨List.mem_of_getElem? (i := 361) (by decide +kernel), by decide +kernel⟩
theorem tw_334 : Cond.code yX5_equations cX5_equations 1 (some .int) ∈ tbw := List.mem_filter.mpr ⟨List.mem_of_getElem? (i := 362) (by decide +kernel), by decide +kernel⟩
theorem tw_335 : Cond.classLink RL 10 RX6 ∈ tbw := List.mem_filter.mpr ⟨List.mem_of_getElem? (i := 363) (by decide +kernel), by decide +kernel⟩
theorem tw_336 : Cond.instantiable RX6 16 ∈ tbw := List.mem_filter.mpr ⟨List.mem_of_getElem? (i := 364) (by decide +kernel), by decide +kernel⟩
theorem tw_337 : Cond.methodLink RL 12 yX6_init ∈ tbw := List.mem_filter.mpr ⟨List.mem_of_getElem? (i := 365) (by decide +kernel), by decide +kernel⟩
theorem tw_338 : Cond.instanceMethod yX6_init ∈ tbw := List.mem_filter.mpr ⟨List.mem_of_getElem? (i := 366) (by decide +kernel), by decide +kernel⟩
theorem tw_339 : Cond.code yX6_init cX6_init 1 none ∈ tbw := List.mem_filter.mpr ⟨List.mem_of_getElem? (i := 367) (by decide +kernel), by decide +kernel⟩
theorem tw_340 : Cond.methodLink RX6 1 objectInit ∈ tbw := List.mem_filter.mpr ⟨List.mem_of_getElem? (i := 368) (by decide +kernel), by decide +kernel⟩
theorem tw_341 : Cond.fieldLink RX6 47 "CongruenceLedgerModel" "count" "I" ∈ tbw := List.mem_filter.mpr ⟨List.mem_of_getElem? (i := 369) (by decide +kernel), by decide +kernel⟩
theorem tw_342 : Cond.fieldLink RX6 7 "CongruenceLedgerModel" "symbols" "[I" ∈ tbw := List.mem_filter.mpr ⟨List.mem_of_getElem? (i := 370) (by decide +kernel), by decide +kernel⟩
theorem tw_343 : Cond.fieldLink RX6 13 "CongruenceLedgerModel" "firsts" "[I" ∈ tbw := List.mem_filter.mpr ⟨List.mem_of_getElem? (i := 371) (by decide +kernel), by decide +kernel⟩
theorem tw_344 : Cond.fieldLink RX6 16 "CongruenceLedgerModel" "seconds" "[I" ∈ tbw := List.mem_filter.mpr ⟨List.mem_of_getElem? (i := 372) (by decide +kernel), by decide +kernel⟩
theorem tw_345 : Cond.fieldLink RX6 65 "CongruenceLedgerModel" "stated" "I" ∈ tbw := List.mem_filter.mpr ⟨List.mem_of_getElem? (i := 373) (by decide +kernel), by decide +kernel⟩
theorem tw_346 : Cond.fieldLink RX6 19 "CongruenceLedgerModel" "lefts" "[I" ∈ tbw := List.mem_filter.mpr ⟨List.mem_of_getElem? (i := 374) (by decide +kernel), by decide +kernel⟩
theorem tw_347 : Cond.fieldLink RX6 22 "CongruenceLedgerModel" "rights" "[I" ∈ tbw := List.mem_filter.mpr ⟨List.mem_of_getElem? (i := 375) (by decide +kernel), by decide +kernel⟩
theorem tw_348 : Cond.fieldLink RX6 92 "CongruenceLedgerModel" "denied" "I" ∈ tbw := List.mem_filter.mpr ⟨List.mem_of_getElem? (i := 376) (by decide +kernel), by decide +kernel⟩
theorem tw_349 : Cond.fieldLink RX6 25 "CongruenceLedgerModel" "ones" "[I" ∈ tbw := List.mem_filter.mpr ⟨List.mem_of_getElem? (i := 377) (by decide +kernel), by decide +kernel⟩
theorem tw_350 : Cond.fieldLink RX6 28 "CongruenceLedgerModel" "others" "[I" ∈ tbw := List.mem_filter.mpr ⟨List.mem_of_getElem? (i := 378) (by decide +kernel), by decide +kernel⟩
theorem tw_351 : Cond.fieldLink RX6 95 "CongruenceLedgerModel" "deep" "I" ∈ tbw := List.mem_filter.mpr ⟨List.mem_of_getElem? (i := 379) (by decide +kernel), by decide +kernel⟩
theorem tw_352 : Cond.fieldLink RX6 31 "CongruenceLedgerModel" "countThen" "[I" ∈ tbw := List.mem_filter.mpr ⟨List.mem_of_getElem? (i := 380) (by decide +kernel), by decide +kernel⟩
theorem tw_353 : Cond.fieldLink RX6 34 "CongruenceLedgerModel" "statedThen" "[I" ∈ tbw := List.mem_filter.mpr ⟨List.mem_of_getElem? (i := 381) (by decide +kernel), by decide +kernel⟩
theorem tw_354 : Cond.fieldLink RX6 37 "CongruenceLedgerModel" "deniedThen" "[I" ∈ tbw := List.mem_filter.mpr ⟨List.mem_of_getElem? (i := 382) (by decide +kernel), by decide +kernel⟩
theorem tw_355 : Cond.fieldLink RX6 40 "CongruenceLedgerModel" "label" "[I" ∈ tbw := List.mem_filter.mpr ⟨List.mem_of_getElem? (i := 383) (by decide +kernel), by decide +kernel⟩
theorem tw_356 : Cond.fieldLink RX6 43 "CongruenceLedgerModel" "least" "[J" ∈ tbw := List.mem_filter.mpr ⟨List.mem_of_getElem? (i := 384) (by decide +kernel), by decide +kernel⟩
theorem tw_357 : Cond.lays RX6 "CongruenceLedgerModel" "count" "I" ∈ tbw := List.mem_filter.mpr ⟨List.mem_of_getElem? (i := 385) (by decide +kernel), by decide +kernel⟩
theorem tw_359 : Cond.laysFinal RX6 "CongruenceLedgerModel" "symbols" "[I" ∈ tbw := List.mem_filter.mpr ⟨List.mem_of_getElem? (i := 387) (by decide +kernel), by decide +kernel⟩
theorem tw_361 : Cond.laysFinal RX6 "CongruenceLedgerModel" "firsts" "[I" ∈ tbw := List.mem_filter.mpr ⟨List.mem_of_getElem? (i := 389) (by decide +kernel), by decide +kernel⟩
theorem tw_363 : Cond.laysFinal RX6 "CongruenceLedgerModel" "seconds" "[I" ∈ tbw := List.mem_filter.mpr ⟨List.mem_of_getElem? (i := 391) (by decide +kernel), by decide +kernel⟩
theorem tw_365 : Cond.lays RX6 "CongruenceLedgerModel" "stated" "I" ∈ tbw := List.mem_filter.mpr ⟨List.mem_of_getElem? (i := 393) (by decide +kernel), by decide +kernel⟩
theorem tw_367 : Cond.laysFinal RX6 "CongruenceLedgerModel" "lefts" "[I" ∈ tbw := List.mem_filter.mpr ⟨List.mem_of_getElem? (i := 395) (by decide +kernel), by decide +kernel⟩
theorem tw_369 : Cond.laysFinal RX6 "CongruenceLedgerModel" "rights" "[I" ∈ tbw := List.mem_filter.mpr ⟨List.mem_of_getElem? (i := 397) (by decide +kernel), by decide +kernel⟩
theorem tw_371 : Cond.lays RX6 "CongruenceLedgerModel" "denied" "I" ∈ tbw := List.mem_filter.mpr ⟨List.mem_of_getElem? (i := 399) (by decide +kernel), by decide +kernel⟩
theorem tw_373 : Cond.laysFinal RX6 "CongruenceLedgerModel" "ones" "[I" ∈ tbw := List.mem_filter.mpr ⟨List.mem_of_getElem? (i := 401) (by decide +kernel), by decide +kernel⟩
theorem tw_375 : Cond.laysFinal RX6 "CongruenceLedgerModel" "others" "[I" ∈ tbw := List.mem_filter.mpr ⟨List.mem_of_getElem? (i := 403) (by decide +kernel), by decide +kernel⟩
theorem tw_377 : Cond.lays RX6 "CongruenceLedgerModel" "deep" "I" ∈ tbw := List.mem_filter.mpr ⟨List.mem_of_getElem? (i := 405) (by decide +kernel), by decide +kernel⟩
theorem tw_379 : Cond.laysFinal RX6 "CongruenceLedgerModel" "countThen" "[I" ∈ tbw := List.mem_filter.mpr ⟨List.mem_of_getElem? (i := 407) (by decide +kernel), by decide +kernel⟩
theorem tw_381 : Cond.laysFinal RX6 "CongruenceLedgerModel" "statedThen" "[I" ∈ tbw := List.mem_filter.mpr ⟨List.mem_of_getElem? (i := 409) (by decide +kernel), by decide +kernel⟩
theorem tw_383 : Cond.laysFinal RX6 "CongruenceLedgerModel" "deniedThen" "[I" ∈ tbw := List.mem_filter.mpr ⟨List.mem_of_getElem? (i := 411) (by decide +kernel), by decide +kernel⟩
theorem tw_385 : Cond.laysFinal RX6 "CongruenceLedgerModel" "label" "[I" ∈ tbw := List.mem_filter.mpr ⟨List.mem_of_getElem? (i := 413) (by decide +kernel), by decide +kernel⟩
theorem tw_387 : Cond.laysFinal RX6 "CongruenceLedgerModel" "least" "[J" ∈ tbw := List.mem_filter.mpr ⟨List.mem_of_getElem? (i := 415) (by decide +kernel), by decide +kernel⟩
theorem tw_390 : Cond.methodLink RL 17 yX6_make ∈ tbw := List.mem_filter.mpr ⟨List.mem_of_getElem? (i := 418) (by decide +kernel), by decide +kernel⟩
theorem tw_391 : Cond.instanceMethod yX6_make ∈ tbw := List.mem_filter.mpr ⟨List.mem_of_getElem? (i := 419) (by decide +kernel), by decide +kernel⟩
theorem tw_392 : Cond.selects RX6 yX6_make yX6_make ∈ tbw := List.mem_filter.mpr ⟨List.mem_of_getElem? (i := 420) (by decide +kernel), by decide +kernel⟩
theorem tw_393 : Cond.code yX6_make cX6_make 5 (some .int) ∈ tbw := List.mem_filter.mpr ⟨List.mem_of_getElem? (i := 421) (by decide +kernel), by decide +kernel⟩
theorem tw_394 : Cond.methodLink RX6 81 yX6_wrongParts ∈ tbw := List.mem_filter.mpr ⟨List.mem_of_getElem? (i := 422) (by decide +kernel), by decide +kernel⟩
theorem tw_396 : Cond.instanceMethod yX6_wrongParts ∈ tbw := List.mem_filter.mpr ⟨List.mem_of_getElem? (i := 424) (by decide +kernel), by decide +kernel⟩
theorem tw_397 : Cond.code yX6_wrongParts cX6_wrongParts 5 (some .boolean) ∈ tbw := List.mem_filter.mpr ⟨List.mem_of_getElem? (i := 425) (by decide +kernel), by decide +kernel⟩
theorem tw_398 : Cond.methodLink RX6 77 yX6_isTerm ∈ tbw := List.mem_filter.mpr ⟨List.mem_of_getElem? (i := 426) (by decide +kernel), by decide +kernel⟩
theorem tw_400 : Cond.instanceMethod yX6_isTerm ∈ tbw := List.mem_filter.mpr ⟨List.mem_of_getElem? (i := 428) (by decide +kernel), by decide +kernel⟩
theorem tw_401 : Cond.code yX6_isTerm cX6_isTerm 2 (some .boolean) ∈ tbw := List.mem_filter.mpr ⟨List.mem_of_getElem? (i := 429) (by decide +kernel), by decide +kernel⟩
theorem tw_402 : Cond.methodLink RL 22 yX6_equate ∈ tbw := List.mem_filter.mpr ⟨List.mem_of_getElem? (i := 430) (by decide +kernel), by decide +kernel⟩
theorem tw_403 : Cond.instanceMethod yX6_equate ∈ tbw := List.mem_filter.mpr ⟨List.mem_of_getElem? (i := 431) (by decide +kernel), by decide +kernel⟩
theorem tw_404 : Cond.selects RX6 yX6_equate yX6_equate ∈ tbw := List.mem_filter.mpr ⟨List.mem_of_getElem? (i := 432) (by decide +kernel), by decide +kernel⟩
theorem tw_405 : Cond.code yX6_equate cX6_equate 4 (some .int) ∈ tbw := List.mem_filter.mpr ⟨List.mem_of_getElem? (i := 433) (by decide +kernel), by decide +kernel⟩
theorem tw_406 : Cond.methodLink RX6 85 yX6_workAll ∈ tbw := List.mem_filter.mpr ⟨List.mem_of_getElem? (i := 434) (by decide +kernel), by decide +kernel⟩
theorem tw_408 : Cond.instanceMethod yX6_workAll ∈ tbw := List.mem_filter.mpr ⟨List.mem_of_getElem? (i := 436) (by decide +kernel), by decide +kernel⟩
theorem tw_409 : Cond.code yX6_workAll cX6_workAll 1 none ∈ tbw := List.mem_filter.mpr ⟨List.mem_of_getElem? (i := 437) (by decide +kernel), by decide +kernel⟩
theorem tw_410 : Cond.methodLink RX6 71 yX6_work ∈ tbw := List.mem_filter.mpr ⟨List.mem_of_getElem? (i := 438) (by decide +kernel), by decide +kernel⟩
theorem tw_412 : Cond.instanceMethod yX6_work ∈ tbw := List.mem_filter.mpr ⟨List.mem_of_getElem? (i := 440) (by decide +kernel), by decide +kernel⟩
theorem tw_413 : Cond.code yX6_work cX6_work 4 none ∈ tbw := List.mem_filter.mpr ⟨List.mem_of_getElem? (i := 441) (by decide +kernel), by decide +kernel⟩
theorem tw_414 : Cond.methodLink RX6 62 yX6_alone ∈ tbw := List.mem_filter.mpr ⟨List.mem_of_getElem? (i := 442) (by decide +kernel), by decide +kernel⟩
theorem tw_416 : Cond.instanceMethod yX6_alone ∈ tbw := List.mem_filter.mpr ⟨List.mem_of_getElem? (i := 444) (by decide +kernel), by decide +kernel⟩
theorem tw_417 : Cond.code yX6_alone cX6_alone 2 none ∈ tbw := List.mem_filter.mpr ⟨List.mem_of_getElem? (i := 445) (by decide +kernel), by decide +kernel⟩
theorem tw_418 : Cond.methodLink RX6 58 yX6_join ∈ tbw := List.mem_filter.mpr ⟨List.mem_of_getElem? (i := 446) (by decide +kernel), by decide +kernel⟩
theorem tw_420 : Cond.instanceMethod yX6_join ∈ tbw := List.mem_filter.mpr ⟨List.mem_of_getElem? (i := 448) (by decide +kernel), by decide +kernel⟩
theorem tw_421 : Cond.code yX6_join cX6_join 6 none ∈ tbw := List.mem_filter.mpr ⟨List.mem_of_getElem? (i := 449) (by decide +kernel), by decide +kernel⟩
theorem tw_422 : Cond.methodLink RX6 68 yX6_settle ∈ tbw := List.mem_filter.mpr ⟨List.mem_of_getElem? (i := 450) (by decide +kernel), by decide +kernel⟩
theorem tw_424 : Cond.instanceMethod yX6_settle ∈ tbw := List.mem_filter.mpr ⟨List.mem_of_getElem? (i := 452) (by decide +kernel), by decide +kernel⟩
theorem tw_425 : Cond.code yX6_settle cX6_settle 5 none ∈ tbw := List.mem_filter.mpr ⟨List.mem_of_getElem? (i := 453) (by decide +kernel), by decide +kernel⟩
theorem tw_426 : Cond.methodLink RX6 55 yX6_alike ∈ tbw := List.mem_filter.mpr ⟨List.mem_of_getElem? (i := 454) (by decide +kernel), by decide +kernel⟩
theorem tw_428 : Cond.instanceMethod yX6_alike ∈ tbw := List.mem_filter.mpr ⟨List.mem_of_getElem? (i := 456) (by decide +kernel), by decide +kernel⟩
theorem tw_429 : Cond.code yX6_alike cX6_alike 3 (some .boolean) ∈ tbw := List.mem_filter.mpr ⟨List.mem_of_getElem? (i := 457) (by decide +kernel), by decide +kernel⟩
theorem tw_430 : Cond.methodLink RX6 51 yX6_sameArgument ∈ tbw := List.mem_filter.mpr ⟨List.mem_of_getElem? (i := 458) (by decide +kernel), by decide +kernel⟩
theorem tw_432 : Cond.instanceMethod yX6_sameArgument ∈ tbw := List.mem_filter.mpr ⟨List.mem_of_getElem? (i := 460) (by decide +kernel), by decide +kernel⟩
theorem tw_433 : Cond.code yX6_sameArgument cX6_sameArgument 3 (some .boolean) ∈ tbw := List.mem_filter.mpr ⟨List.mem_of_getElem? (i := 461) (by decide +kernel), by decide +kernel⟩
theorem tw_434 : Cond.methodLink RX6 88 yX6_kinds ∈ tbw := List.mem_filter.mpr ⟨List.mem_of_getElem? (i := 462) (by decide +kernel), by decide +kernel⟩
theorem tw_436 : Cond.instanceMethod yX6_kinds ∈ tbw := List.mem_filter.mpr ⟨List.mem_of_getElem? (i := 464) (by decide +kernel), by decide +kernel⟩
theorem tw_437 : Cond.code yX6_kinds cX6_kinds 3 (some .int) ∈ tbw := List.mem_filter.mpr ⟨List.mem_of_getElem? (i := 465) (by decide +kernel), by decide +kernel⟩
theorem tw_438 : Cond.methodLink RL 26 yX6_differ ∈ tbw := List.mem_filter.mpr ⟨List.mem_of_getElem? (i := 466) (by decide +kernel), by decide +kernel⟩
theorem tw_439 : Cond.instanceMethod yX6_differ ∈ tbw := List.mem_filter.mpr ⟨List.mem_of_getElem? (i := 467) (by decide +kernel), by decide +kernel⟩
theorem tw_440 : Cond.selects RX6 yX6_differ yX6_differ ∈ tbw := List.mem_filter.mpr ⟨List.mem_of_getElem? (i := 468) (by decide +kernel), by decide +kernel⟩
theorem tw_441 : Cond.code yX6_differ cX6_differ 3 (some .int) ∈ tbw := List.mem_filter.mpr ⟨List.mem_of_getElem? (i := 469) (by decide +kernel), by decide +kernel⟩
theorem tw_442 : Cond.methodLink RL 31 yX6_open ∈ tbw := List.mem_filter.mpr ⟨List.mem_of_getElem? (i := 470) (by decide +kernel), by decide +kernel⟩
theorem tw_443 : Cond.instanceMethod yX6_open ∈ tbw := List.mem_filter.mpr ⟨List.mem_of_getElem? (i := 471) (by decide +kernel), by decide +kernel⟩
theorem tw_444 : Cond.selects RX6 yX6_open yX6_open ∈ tbw := List.mem_filter.mpr ⟨List.mem_of_getElem? (i := 472) (by decide +kernel), by decide +kernel⟩
theorem tw_445 : Cond.code yX6_open cX6_open 1 (some .int) ∈ tbw := List.mem_filter.mpr ⟨List.mem_of_getElem? (i := 473) (by decide +kernel), by decide +kernel⟩
theorem tw_446 : Cond.methodLink RL 35 yX6_close ∈ tbw := List.mem_filter.mpr ⟨List.mem_of_getElem? (i := 474) (by decide +kernel), by decide +kernel⟩
theorem tw_447 : Cond.instanceMethod yX6_close ∈ tbw := List.mem_filter.mpr ⟨List.mem_of_getElem? (i := 475) (by decide +kernel), by decide +kernel⟩
theorem tw_448 : Cond.selects RX6 yX6_close yX6_close ∈ tbw := List.mem_filter.mpr ⟨List.mem_of_getElem? (i := 476) (by decide +kernel), by decide +kernel⟩
theorem tw_449 : Cond.code yX6_close cX6_close 1 (some .int) ∈ tbw := List.mem_filter.mpr ⟨List.mem_of_getElem? (i := 477) (by decide +kernel), by decide +kernel⟩
theorem tw_450 : Cond.methodLink RL 39 yX6_equal ∈ tbw := List.mem_filter.mpr ⟨List.mem_of_getElem? (i := 478) (by decide +kernel), by decide +kernel⟩
theorem tw_451 : Cond.instanceMethod yX6_equal ∈ tbw := List.mem_filter.mpr ⟨List.mem_of_getElem? (i := 479) (by decide +kernel), by decide +kernel⟩
theorem tw_452 : Cond.selects RX6 yX6_equal yX6_equal ∈ tbw := List.mem_filter.mpr ⟨List.mem_of_getElem? (i := 480) (by decide +kernel), by decide +kernel⟩
theorem tw_453 : Cond.code yX6_equal cX6_equal 3 (some .int) ∈ tbw := List.mem_filter.mpr ⟨List.mem_of_getElem? (i := 481) (by decide +kernel), by decide +kernel⟩
theorem tw_454 : Cond.methodLink RX6 74 yX6_joined ∈ tbw := List.mem_filter.mpr ⟨List.mem_of_getElem? (i := 482) (by decide +kernel), by decide +kernel⟩
theorem tw_456 : Cond.instanceMethod yX6_joined ∈ tbw := List.mem_filter.mpr ⟨List.mem_of_getElem? (i := 484) (by decide +kernel), by decide +kernel⟩
theorem tw_457 : Cond.code yX6_joined cX6_joined 3 (some .boolean) ∈ tbw := List.mem_filter.mpr ⟨List.mem_of_getElem? (i := 485) (by decide +kernel), by decide +kernel⟩
theorem tw_458 : Cond.methodLink RL 43 yX6_apart ∈ tbw := List.mem_filter.mpr ⟨List.mem_of_getElem? (i := 486) (by decide +kernel), by decide +kernel⟩
theorem tw_459 : Cond.instanceMethod yX6_apart ∈ tbw := List.mem_filter.mpr ⟨List.mem_of_getElem? (i := 487) (by decide +kernel), by decide +kernel⟩
theorem tw_460 : Cond.selects RX6 yX6_apart yX6_apart ∈ tbw := List.mem_filter.mpr ⟨List.mem_of_getElem? (i := 488) (by decide +kernel), by decide +kernel⟩
theorem tw_461 : Cond.code yX6_apart cX6_apart 6 (some .int) ∈ tbw := List.mem_filter.mpr ⟨List.mem_of_getElem? (i := 489) (by decide +kernel), by decide +kernel⟩
theorem tw_462 : Cond.methodLink RL 48 yX6_consistent ∈ tbw := List.mem_filter.mpr ⟨List.mem_of_getElem? (i := 490) (by decide +kernel), by decide +kernel⟩
theorem tw_463 : Cond.instanceMethod yX6_consistent ∈ tbw := List.mem_filter.mpr ⟨List.mem_of_getElem? (i := 491) (by decide +kernel), by decide +kernel⟩
theorem tw_464 : Cond.selects RX6 yX6_consistent yX6_consistent ∈ tbw := List.mem_filter.mpr ⟨List.mem_of_getElem? (i := 492) (by decide +kernel), by decide +kernel⟩
theorem tw_465 : Cond.code yX6_consistent cX6_consistent 3 (some .boolean) ∈ tbw := List.mem_filter.mpr ⟨List.mem_of_getElem? (i := 493) (by decide +kernel), by decide +kernel⟩
theorem tw_466 : Cond.methodLink RL 53 yX6_leader ∈ tbw := List.mem_filter.mpr ⟨List.mem_of_getElem? (i := 494) (by decide +kernel), by decide +kernel⟩
theorem tw_467 : Cond.instanceMethod yX6_leader ∈ tbw := List.mem_filter.mpr ⟨List.mem_of_getElem? (i := 495) (by decide +kernel), by decide +kernel⟩
theorem tw_468 : Cond.selects RX6 yX6_leader yX6_leader ∈ tbw := List.mem_filter.mpr ⟨List.mem_of_getElem? (i := 496) (by decide +kernel), by decide +kernel⟩
theorem tw_469 : Cond.code yX6_leader cX6_leader 2 (some .int) ∈ tbw := List.mem_filter.mpr ⟨List.mem_of_getElem? (i := 497) (by decide +kernel), by decide +kernel⟩
theorem tw_470 : Cond.methodLink RL 57 yX6_members ∈ tbw := List.mem_filter.mpr ⟨List.mem_of_getElem? (i := 498) (by decide +kernel), by decide +kernel⟩
theorem tw_471 : Cond.instanceMethod yX6_members ∈ tbw := List.mem_filter.mpr ⟨List.mem_of_getElem? (i := 499) (by decide +kernel), by decide +kernel⟩
theorem tw_472 : Cond.selects RX6 yX6_members yX6_members ∈ tbw := List.mem_filter.mpr ⟨List.mem_of_getElem? (i := 500) (by decide +kernel), by decide +kernel⟩
theorem tw_473 : Cond.code yX6_members cX6_members 4 (some .int) ∈ tbw := List.mem_filter.mpr ⟨List.mem_of_getElem? (i := 501) (by decide +kernel), by decide +kernel⟩
theorem tw_474 : Cond.methodLink RL 61 yX6_classes ∈ tbw := List.mem_filter.mpr ⟨List.mem_of_getElem? (i := 502) (by decide +kernel), by decide +kernel⟩
theorem tw_475 : Cond.instanceMethod yX6_classes ∈ tbw := List.mem_filter.mpr ⟨List.mem_of_getElem? (i := 503) (by decide +kernel), by decide +kernel⟩
theorem tw_476 : Cond.selects RX6 yX6_classes yX6_classes ∈ tbw := List.mem_filter.mpr ⟨List.mem_of_getElem? (i := 504) (by decide +kernel), by decide +kernel⟩
theorem tw_477 : Cond.code yX6_classes cX6_classes 1 (some .int) ∈ tbw := List.mem_filter.mpr ⟨List.mem_of_getElem? (i := 505) (by decide +kernel), by decide +kernel⟩
theorem tw_478 : Cond.methodLink RL 65 yX6_find ∈ tbw := List.mem_filter.mpr ⟨List.mem_of_getElem? (i := 506) (by decide +kernel), by decide +kernel⟩
theorem tw_479 : Cond.instanceMethod yX6_find ∈ tbw := List.mem_filter.mpr ⟨List.mem_of_getElem? (i := 507) (by decide +kernel), by decide +kernel⟩
theorem tw_480 : Cond.selects RX6 yX6_find yX6_find ∈ tbw := List.mem_filter.mpr ⟨List.mem_of_getElem? (i := 508) (by decide +kernel), by decide +kernel⟩
theorem tw_481 : Cond.code yX6_find cX6_find 5 (some .int) ∈ tbw := List.mem_filter.mpr ⟨List.mem_of_getElem? (i := 509) (by decide +kernel), by decide +kernel⟩
theorem tw_482 : Cond.methodLink RL 69 yX6_since ∈ tbw := List.mem_filter.mpr ⟨List.mem_of_getElem? (i := 510) (by decide +kernel), by decide +kernel⟩
theorem tw_483 : Cond.instanceMethod yX6_since ∈ tbw := List.mem_filter.mpr ⟨List.mem_of_getElem? (i := 511) (by decide +kernel), by decide +kernel⟩
theorem tw_484 : Cond.selects RX6 yX6_since yX6_since ∈ tbw := List.mem_filter.mpr ⟨List.mem_of_getElem? (i := 512) (by decide +kernel), by decide +kernel⟩
theorem tw_485 : Cond.code yX6_since cX6_since 3 (some .int) ∈ tbw := List.mem_filter.mpr ⟨List.mem_of_getElem? (i := 513) (by decide +kernel), by decide +kernel⟩
theorem tw_486 : Cond.methodLink RX6 98 yX6_first ∈ tbw := List.mem_filter.mpr ⟨List.mem_of_getElem? (i := 514) (by decide +kernel), by decide +kernel⟩
theorem tw_488 : Cond.instanceMethod yX6_first ∈ tbw := List.mem_filter.mpr ⟨List.mem_of_getElem? (i := 516) (by decide +kernel), by decide +kernel⟩
theorem tw_489 : Cond.code yX6_first cX6_first 5 (some .int) ∈ tbw := List.mem_filter.mpr ⟨List.mem_of_getElem? (i := 517) (by decide +kernel), by decide +kernel⟩
theorem tw_490 : Cond.methodLink RL 73 yX6_explanation ∈ tbw := List.mem_filter.mpr ⟨List.mem_of_getElem? (i := 518) (by decide +kernel), by decide +kernel⟩
theorem tw_491 : Cond.instanceMethod yX6_explanation ∈ tbw := List.mem_filter.mpr ⟨List.mem_of_getElem? (i := 519) (by decide +kernel), by decide +kernel⟩
theorem tw_492 : Cond.selects RX6 yX6_explanation yX6_explanation ∈ tbw := List.mem_filter.mpr ⟨List.mem_of_getElem? (i := 520) (by decide +kernel), by decide +kernel⟩
theorem tw_493 : Cond.code yX6_explanation cX6_explanation 5 (some .int) ∈ tbw := List.mem_filter.mpr ⟨List.mem_of_getElem? (i := 521) (by decide +kernel), by decide +kernel⟩
theorem tw_494 : Cond.methodLink RL 77 yX6_needed ∈ tbw := List.mem_filter.mpr ⟨List.mem_of_getElem? (i := 522) (by decide +kernel), by decide +kernel⟩
theorem tw_495 : Cond.instanceMethod yX6_needed ∈ tbw := List.mem_filter.mpr ⟨List.mem_of_getElem? (i := 523) (by decide +kernel), by decide +kernel⟩
theorem tw_496 : Cond.selects RX6 yX6_needed yX6_needed ∈ tbw := List.mem_filter.mpr ⟨List.mem_of_getElem? (i := 524) (by decide +kernel), by decide +kernel⟩
theorem tw_497 : Cond.code yX6_needed cX6_needed 6 (some .int) ∈ tbw := List.mem_filter.mpr ⟨List.mem_of_getElem? (i := 525) (by decide +kernel), by decide +kernel⟩
theorem tw_498 : Cond.methodLink RL 82 yX6_weight ∈ tbw := List.mem_filter.mpr ⟨List.mem_of_getElem? (i := 526) (by decide +kernel), by decide +kernel⟩
theorem tw_499 : Cond.instanceMethod yX6_weight ∈ tbw := List.mem_filter.mpr ⟨List.mem_of_getElem? (i := 527) (by decide +kernel), by decide +kernel⟩
theorem tw_500 : Cond.selects RX6 yX6_weight yX6_weight ∈ tbw := List.mem_filter.mpr ⟨List.mem_of_getElem? (i := 528) (by decide +kernel), by decide +kernel⟩
theorem tw_501 : Cond.code yX6_weight cX6_weight 2 (some .long) ∈ tbw := List.mem_filter.mpr ⟨List.mem_of_getElem? (i := 529) (by decide +kernel), by decide +kernel⟩
theorem tw_502 : Cond.methodLink RX6 109 yX6_weigh ∈ tbw := List.mem_filter.mpr ⟨List.mem_of_getElem? (i := 530) (by decide +kernel), by decide +kernel⟩
theorem tw_504 : Cond.instanceMethod yX6_weigh ∈ tbw := List.mem_filter.mpr ⟨List.mem_of_getElem? (i := 532) (by decide +kernel), by decide +kernel⟩
theorem tw_505 : Cond.code yX6_weigh cX6_weigh 7 none ∈ tbw := List.mem_filter.mpr ⟨List.mem_of_getElem? (i := 533) (by decide +kernel), by decide +kernel⟩
theorem tw_506 : Cond.methodLink RX6 106 yX6_sum ∈ tbw := List.mem_filter.mpr ⟨List.mem_of_getElem? (i := 534) (by decide +kernel), by decide +kernel⟩
theorem tw_508 : Cond.instanceMethod yX6_sum ∈ tbw := List.mem_filter.mpr ⟨List.mem_of_getElem? (i := 536) (by decide +kernel), by decide +kernel⟩
theorem tw_509 : Cond.code yX6_sum cX6_sum 5 (some .long) ∈ tbw := List.mem_filter.mpr ⟨List.mem_of_getElem? (i := 537) (by decide +kernel), by decide +kernel⟩
theorem tw_510 : Cond.methodLink RX6 102 yX6_argument ∈ tbw := List.mem_filter.mpr ⟨List.mem_of_getElem? (i := 538) (by decide +kernel), by decide +kernel⟩
theorem tw_512 : Cond.instanceMethod yX6_argument ∈ tbw := List.mem_filter.mpr ⟨List.mem_of_getElem? (i := 540) (by decide +kernel), by decide +kernel⟩
theorem tw_513 : Cond.code yX6_argument cX6_argument 2 (some .long) ∈ tbw := List.mem_filter.mpr ⟨List.mem_of_getElem? (i := 541) (by decide +kernel), by decide +kernel⟩
theorem tw_514 : Cond.methodLink RL 86 yX6_best ∈ tbw := List.mem_filter.mpr ⟨List.mem_of_getElem? (i := 542) (by decide +kernel), by decide +kernel⟩
theorem tw_515 : Cond.instanceMethod yX6_best ∈ tbw := List.mem_filter.mpr ⟨List.mem_of_getElem? (i := 543) (by decide +kernel), by decide +kernel⟩
theorem tw_516 : Cond.selects RX6 yX6_best yX6_best ∈ tbw := List.mem_filter.mpr ⟨List.mem_of_getElem? (i := 544) (by decide +kernel), by decide +kernel⟩
theorem tw_517 : Cond.code yX6_best cX6_best 2 (some .int) ∈ tbw := List.mem_filter.mpr ⟨List.mem_of_getElem? (i := 545) (by decide +kernel), by decide +kernel⟩
theorem tw_518 : Cond.methodLink RX6 112 yX6_bestOf ∈ tbw := List.mem_filter.mpr ⟨List.mem_of_getElem? (i := 546) (by decide +kernel), by decide +kernel⟩
theorem tw_520 : Cond.instanceMethod yX6_bestOf ∈ tbw := List.mem_filter.mpr ⟨List.mem_of_getElem? (i := 548) (by decide +kernel), by decide +kernel⟩
theorem tw_521 : Cond.code yX6_bestOf cX6_bestOf 4 (some .int) ∈ tbw := List.mem_filter.mpr ⟨List.mem_of_getElem? (i := 549) (by decide +kernel), by decide +kernel⟩
theorem tw_522 : Cond.methodLink RL 90 yX6_written ∈ tbw := List.mem_filter.mpr ⟨List.mem_of_getElem? (i := 550) (by decide +kernel), by decide +kernel⟩
theorem tw_523 : Cond.instanceMethod yX6_written ∈ tbw := List.mem_filter.mpr ⟨List.mem_of_getElem? (i := 551) (by decide +kernel), by decide +kernel⟩
theorem tw_524 : Cond.selects RX6 yX6_written yX6_written ∈ tbw := List.mem_filter.mpr ⟨List.mem_of_getElem? (i := 552) (by decide +kernel), by decide +kernel⟩
theorem tw_525 : Cond.code yX6_written cX6_written 9 (some .int) ∈ tbw := List.mem_filter.mpr ⟨List.mem_of_getElem? (i := 553) (by decide +kernel), by decide +kernel⟩
theorem tw_526 : Cond.methodLink RL 94 yX6_terms ∈ tbw := List.mem_filter.mpr ⟨List.mem_of_getElem? (i := 554) (by decide +kernel), by decide +kernel⟩
theorem tw_527 : Cond.instanceMethod yX6_terms ∈ tbw := List.mem_filter.mpr ⟨List.mem_of_getElem? (i := 555) (by decide +kernel), by decide +kernel⟩
theorem tw_528 : Cond.selects RX6 yX6_terms yX6_terms ∈ tbw := List.mem_filter.mpr ⟨List.mem_of_getElem? (i := 556) (by decide +kernel), by decide +kernel⟩
theorem tw_529 : Cond.code yX6_terms cX6_terms 1 (some .int) ∈ tbw := List.mem_filter.mpr ⟨List.mem_of_getElem? (i := 557) (by decide +kernel), by decide +kernel⟩
theorem tw_530 : Cond.methodLink RL 98 yX6_equations ∈ tbw := List.mem_filter.mpr ⟨List.mem_of_getElem? (i := 558) (by decide +kernel), by decide +kernel⟩
theorem tw_531 : Cond.instanceMethod yX6_equations ∈ tbw := List.mem_filter.mpr ⟨List.mem_of_getElem? (i := 559) (by decide +kernel), by decide +kernel⟩
theorem tw_532 : Cond.selects RX6 yX6_equations yX6_equations ∈ tbw := List.mem_filter.mpr ⟨List.mem_of_getElem? (i := 560) (by decide +kernel), by decide +kernel⟩
theorem tw_533 : Cond.code yX6_equations cX6_equations 1 (some .int) ∈ tbw := List.mem_filter.mpr ⟨List.mem_of_getElem? (i := 561) (by decide +kernel), by decide +kernel⟩
theorem ts_0 : Cond.selects RX5 yX5_isShape yX5_isShape ∈ tbw := List.mem_filter.mpr ⟨List.mem_of_getElem? (i := 0) (by decide +kernel), by decide +kernel⟩
theorem ts_1 : Cond.selects RX5 yX5_isTerm yX5_isTerm ∈ tbw := List.mem_filter.mpr ⟨List.mem_of_getElem? (i := 1) (by decide +kernel), by decide +kernel⟩
theorem ts_2 : Cond.selects RX5 yX5_settleCurrent yX5_settleCurrent ∈ tbw := List.mem_filter.mpr ⟨List.mem_of_getElem? (i := 2) (by decide +kernel), by decide +kernel⟩
theorem ts_3 : Cond.selects RX2 yX2_merge yX2_merge ∈ tbw := List.mem_filter.mpr ⟨List.mem_of_getElem? (i := 3) (by decide +kernel), by decide +kernel⟩
theorem ts_4 : Cond.selects RX2 yX2_mergeCongruent yX2_mergeCongruent ∈ tbw := List.mem_filter.mpr ⟨List.mem_of_getElem? (i := 4) (by decide +kernel), by decide +kernel⟩
theorem ts_5 : Cond.selects RX2 yX2_congruent yX2_congruent ∈ tbw := List.mem_filter.mpr ⟨List.mem_of_getElem? (i := 5) (by decide +kernel), by decide +kernel⟩
theorem ts_6 : Cond.selects RX2 yX2_sameArgument yX2_sameArgument ∈ tbw := List.mem_filter.mpr ⟨List.mem_of_getElem? (i := 6) (by decide +kernel), by decide +kernel⟩
theorem ts_7 : Cond.selects RX5 yX5_areTerms yX5_areTerms ∈ tbw := List.mem_filter.mpr ⟨List.mem_of_getElem? (i := 7) (by decide +kernel), by decide +kernel⟩
theorem ts_8 : Cond.selects RX5 yX5_followsFrom yX5_followsFrom ∈ tbw := List.mem_filter.mpr ⟨List.mem_of_getElem? (i := 8) (by decide +kernel), by decide +kernel⟩
theorem ts_9 : Cond.selects RX4 yX4_lower yX4_lower ∈ tbw := List.mem_filter.mpr ⟨List.mem_of_getElem? (i := 9) (by decide +kernel), by decide +kernel⟩
theorem ts_10 : Cond.selects RX4 yX4_costOf yX4_costOf ∈ tbw := List.mem_filter.mpr ⟨List.mem_of_getElem? (i := 10) (by decide +kernel), by decide +kernel⟩
theorem ts_11 : Cond.selects RX4 yX4_ofArgument yX4_ofArgument ∈ tbw := List.mem_filter.mpr ⟨List.mem_of_getElem? (i := 11) (by decide +kernel), by decide +kernel⟩
theorem ts_12 : Cond.selects RX6 yX6_wrongParts yX6_wrongParts ∈ tbw := List.mem_filter.mpr ⟨List.mem_of_getElem? (i := 12) (by decide +kernel), by decide +kernel⟩
theorem ts_13 : Cond.selects RX6 yX6_isTerm yX6_isTerm ∈ tbw := List.mem_filter.mpr ⟨List.mem_of_getElem? (i := 13) (by decide +kernel), by decide +kernel⟩
theorem ts_14 : Cond.selects RX6 yX6_workAll yX6_workAll ∈ tbw := List.mem_filter.mpr ⟨List.mem_of_getElem? (i := 14) (by decide +kernel), by decide +kernel⟩
theorem ts_15 : Cond.selects RX6 yX6_work yX6_work ∈ tbw := List.mem_filter.mpr ⟨List.mem_of_getElem? (i := 15) (by decide +kernel), by decide +kernel⟩
theorem ts_16 : Cond.selects RX6 yX6_alone yX6_alone ∈ tbw := List.mem_filter.mpr ⟨List.mem_of_getElem? (i := 16) (by decide +kernel), by decide +kernel⟩
theorem ts_17 : Cond.selects RX6 yX6_join yX6_join ∈ tbw := List.mem_filter.mpr ⟨List.mem_of_getElem? (i := 17) (by decide +kernel), by decide +kernel⟩
theorem ts_18 : Cond.selects RX6 yX6_settle yX6_settle ∈ tbw := List.mem_filter.mpr ⟨List.mem_of_getElem? (i := 18) (by decide +kernel), by decide +kernel⟩
theorem ts_19 : Cond.selects RX6 yX6_alike yX6_alike ∈ tbw := List.mem_filter.mpr ⟨List.mem_of_getElem? (i := 19) (by decide +kernel), by decide +kernel⟩
theorem ts_20 : Cond.selects RX6 yX6_sameArgument yX6_sameArgument ∈ tbw := List.mem_filter.mpr ⟨List.mem_of_getElem? (i := 20) (by decide +kernel), by decide +kernel⟩
theorem ts_21 : Cond.selects RX6 yX6_kinds yX6_kinds ∈ tbw := List.mem_filter.mpr ⟨List.mem_of_getElem? (i := 21) (by decide +kernel), by decide +kernel⟩
theorem ts_22 : Cond.selects RX6 yX6_joined yX6_joined ∈ tbw := List.mem_filter.mpr ⟨List.mem_of_getElem? (i := 22) (by decide +kernel), by decide +kernel⟩
theorem ts_23 : Cond.selects RX6 yX6_first yX6_first ∈ tbw := List.mem_filter.mpr ⟨List.mem_of_getElem? (i := 23) (by decide +kernel), by decide +kernel⟩
theorem ts_24 : Cond.selects RX6 yX6_weigh yX6_weigh ∈ tbw := List.mem_filter.mpr ⟨List.mem_of_getElem? (i := 24) (by decide +kernel), by decide +kernel⟩
theorem ts_25 : Cond.selects RX6 yX6_sum yX6_sum ∈ tbw := List.mem_filter.mpr ⟨List.mem_of_getElem? (i := 25) (by decide +kernel), by decide +kernel⟩
theorem ts_26 : Cond.selects RX6 yX6_argument yX6_argument ∈ tbw := List.mem_filter.mpr ⟨List.mem_of_getElem? (i := 26) (by decide +kernel), by decide +kernel⟩
theorem ts_27 : Cond.selects RX6 yX6_bestOf yX6_bestOf ∈ tbw := List.mem_filter.mpr ⟨List.mem_of_getElem? (i := 27) (by decide +kernel), by decide +kernel⟩
theorem tbX0 : ∀ w ∈ u_ws RX0 TX0 4, w ∈ tbw := by
  intro w hw
  obtain ⟨k, hk, rfl⟩ := List.mem_map.mp hw
  have hk := List.mem_range.mp hk
  match k, hk with
  | 0, _ => exact tw_83
  | 1, _ => exact tw_85
  | 2, _ => exact tw_87
  | 3, _ => exact tw_89
  | k + 4, h => exact absurd h (by omega)
theorem tbX1 : ∀ w ∈ u_ws RX1 TX1 3, w ∈ tbw := by
  intro w hw
  obtain ⟨k, hk, rfl⟩ := List.mem_map.mp hw
  have hk := List.mem_range.mp hk
  match k, hk with
  | 0, _ => exact tw_62
  | 1, _ => exact tw_64
  | 2, _ => exact tw_66
  | k + 3, h => exact absurd h (by omega)
theorem tbX2 : ∀ w ∈ u_ws RX2 TX2 1, w ∈ tbw := by
  intro w hw
  obtain ⟨k, hk, rfl⟩ := List.mem_map.mp hw
  have hk := List.mem_range.mp hk
  match k, hk with
  | 0, _ => exact tw_101
  | k + 1, h => exact absurd h (by omega)
theorem tbX3 : ∀ w ∈ u_ws RX3 TX3 4, w ∈ tbw := by
  intro w hw
  obtain ⟨k, hk, rfl⟩ := List.mem_map.mp hw
  have hk := List.mem_range.mp hk
  match k, hk with
  | 0, _ => exact tw_37
  | 1, _ => exact tw_39
  | 2, _ => exact tw_41
  | 3, _ => exact tw_43
  | k + 4, h => exact absurd h (by omega)
theorem tbX4 : ∀ w ∈ u_ws RX4 TX4 1, w ∈ tbw := by
  intro w hw
  obtain ⟨k, hk, rfl⟩ := List.mem_map.mp hw
  have hk := List.mem_range.mp hk
  match k, hk with
  | 0, _ => exact tw_111
  | k + 1, h => exact absurd h (by omega)
theorem tbX5 : ∀ w ∈ u_ws RX5 TX5 7, w ∈ tbw := by
  intro w hw
  obtain ⟨k, hk, rfl⟩ := List.mem_map.mp hw
  have hk := List.mem_range.mp hk
  match k, hk with
  | 0, _ => exact tw_122
  | 1, _ => exact tw_124
  | 2, _ => exact tw_126
  | 3, _ => exact tw_128
  | 4, _ => exact tw_130
  | 5, _ => exact tw_132
  | 6, _ => exact tw_134
  | k + 7, h => exact absurd h (by omega)
theorem tbX6 : ∀ w ∈ u_ws RX6 TX6 16, w ∈ tbw := by
  intro w hw
  obtain ⟨k, hk, rfl⟩ := List.mem_map.mp hw
  have hk := List.mem_range.mp hk
  match k, hk with
  | 0, _ => exact tw_357
  | 1, _ => exact tw_359
  | 2, _ => exact tw_361
  | 3, _ => exact tw_363
  | 4, _ => exact tw_365
  | 5, _ => exact tw_367
  | 6, _ => exact tw_369
  | 7, _ => exact tw_371
  | 8, _ => exact tw_373
  | 9, _ => exact tw_375
  | 10, _ => exact tw_377
  | 11, _ => exact tw_379
  | 12, _ => exact tw_381
  | 13, _ => exact tw_383
  | 14, _ => exact tw_385
  | 15, _ => exact tw_387
  | k + 16, h => exact absurd h (by omega)
theorem hdX0_init : yX0_init.cls = RX0 ∧ yX0_init.cls ≠ "java/lang/invoke/MethodHandle" ∧ yX0_init.cls ≠ "java/lang/invoke/VarHandle" ∧ (parseMethodDescriptor yX0_init.desc).map (fun d => d.parameters.length) = some 0 := by decide +kernel
theorem hdX0_push : yX0_push.cls = RX0 ∧ yX0_push.cls ≠ "java/lang/invoke/MethodHandle" ∧ yX0_push.cls ≠ "java/lang/invoke/VarHandle" ∧ (parseMethodDescriptor yX0_push.desc).map (fun d => d.parameters.length) = some 3 := by decide +kernel
theorem hdX1_init : yX1_init.cls = RX1 ∧ yX1_init.cls ≠ "java/lang/invoke/MethodHandle" ∧ yX1_init.cls ≠ "java/lang/invoke/VarHandle" ∧ (parseMethodDescriptor yX1_init.desc).map (fun d => d.parameters.length) = some 1 := by decide +kernel
theorem hdX1_isFull : yX1_isFull.cls = RX1 ∧ yX1_isFull.cls ≠ "java/lang/invoke/MethodHandle" ∧ yX1_isFull.cls ≠ "java/lang/invoke/VarHandle" ∧ (parseMethodDescriptor yX1_isFull.desc).map (fun d => d.parameters.length) = some 0 := by decide +kernel
theorem hdX1_add : yX1_add.cls = RX1 ∧ yX1_add.cls ≠ "java/lang/invoke/MethodHandle" ∧ yX1_add.cls ≠ "java/lang/invoke/VarHandle" ∧ (parseMethodDescriptor yX1_add.desc).map (fun d => d.parameters.length) = some 2 := by decide +kernel
theorem hdX2_init : yX2_init.cls = RX2 ∧ yX2_init.cls ≠ "java/lang/invoke/MethodHandle" ∧ yX2_init.cls ≠ "java/lang/invoke/VarHandle" ∧ (parseMethodDescriptor yX2_init.desc).map (fun d => d.parameters.length) = some 0 := by decide +kernel
theorem hdX2_joins : yX2_joins.cls = RX2 ∧ yX2_joins.cls ≠ "java/lang/invoke/MethodHandle" ∧ yX2_joins.cls ≠ "java/lang/invoke/VarHandle" ∧ (parseMethodDescriptor yX2_joins.desc).map (fun d => d.parameters.length) = some 2 := by decide +kernel
theorem hdX2_classCount : yX2_classCount.cls = RX2 ∧ yX2_classCount.cls ≠ "java/lang/invoke/MethodHandle" ∧ yX2_classCount.cls ≠ "java/lang/invoke/VarHandle" ∧ (parseMethodDescriptor yX2_classCount.desc).map (fun d => d.parameters.length) = some 1 := by decide +kernel
theorem hdX2_fits : yX2_fits.cls = RX2 ∧ yX2_fits.cls ≠ "java/lang/invoke/MethodHandle" ∧ yX2_fits.cls ≠ "java/lang/invoke/VarHandle" ∧ (parseMethodDescriptor yX2_fits.desc).map (fun d => d.parameters.length) = some 5 := by decide +kernel
theorem hdX2_sameArgument : yX2_sameArgument.cls = RX2 ∧ yX2_sameArgument.cls ≠ "java/lang/invoke/MethodHandle" ∧ yX2_sameArgument.cls ≠ "java/lang/invoke/VarHandle" ∧ (parseMethodDescriptor yX2_sameArgument.desc).map (fun d => d.parameters.length) = some 2 := by decide +kernel
theorem hdX2_settle : yX2_settle.cls = RX2 ∧ yX2_settle.cls ≠ "java/lang/invoke/MethodHandle" ∧ yX2_settle.cls ≠ "java/lang/invoke/VarHandle" ∧ (parseMethodDescriptor yX2_settle.desc).map (fun d => d.parameters.length) = some 3 := by decide +kernel
theorem hdX2_mergeCongruent : yX2_mergeCongruent.cls = RX2 ∧ yX2_mergeCongruent.cls ≠ "java/lang/invoke/MethodHandle" ∧ yX2_mergeCongruent.cls ≠ "java/lang/invoke/VarHandle" ∧ (parseMethodDescriptor yX2_mergeCongruent.desc).map (fun d => d.parameters.length) = some 1 := by decide +kernel
theorem hdX2_congruent : yX2_congruent.cls = RX2 ∧ yX2_congruent.cls ≠ "java/lang/invoke/MethodHandle" ∧ yX2_congruent.cls ≠ "java/lang/invoke/VarHandle" ∧ (parseMethodDescriptor yX2_congruent.desc).map (fun d => d.parameters.length) = some 3 := by decide +kernel
theorem hdX2_merge : yX2_merge.cls = RX2 ∧ yX2_merge.cls ≠ "java/lang/invoke/MethodHandle" ∧ yX2_merge.cls ≠ "java/lang/invoke/VarHandle" ∧ (parseMethodDescriptor yX2_merge.desc).map (fun d => d.parameters.length) = some 3 := by decide +kernel
theorem hdX3_init : yX3_init.cls = RX3 ∧ yX3_init.cls ≠ "java/lang/invoke/MethodHandle" ∧ yX3_init.cls ≠ "java/lang/invoke/VarHandle" ∧ (parseMethodDescriptor yX3_init.desc).map (fun d => d.parameters.length) = some 0 := by decide +kernel
theorem hdX3_numberOf : yX3_numberOf.cls = RX3 ∧ yX3_numberOf.cls ≠ "java/lang/invoke/MethodHandle" ∧ yX3_numberOf.cls ≠ "java/lang/invoke/VarHandle" ∧ (parseMethodDescriptor yX3_numberOf.desc).map (fun d => d.parameters.length) = some 3 := by decide +kernel
theorem hdX3_add : yX3_add.cls = RX3 ∧ yX3_add.cls ≠ "java/lang/invoke/MethodHandle" ∧ yX3_add.cls ≠ "java/lang/invoke/VarHandle" ∧ (parseMethodDescriptor yX3_add.desc).map (fun d => d.parameters.length) = some 3 := by decide +kernel
theorem hdX4_init : yX4_init.cls = RX4 ∧ yX4_init.cls ≠ "java/lang/invoke/MethodHandle" ∧ yX4_init.cls ≠ "java/lang/invoke/VarHandle" ∧ (parseMethodDescriptor yX4_init.desc).map (fun d => d.parameters.length) = some 0 := by decide +kernel
theorem hdX4_weigh : yX4_weigh.cls = RX4 ∧ yX4_weigh.cls ≠ "java/lang/invoke/MethodHandle" ∧ yX4_weigh.cls ≠ "java/lang/invoke/VarHandle" ∧ (parseMethodDescriptor yX4_weigh.desc).map (fun d => d.parameters.length) = some 2 := by decide +kernel
theorem hdX4_lower : yX4_lower.cls = RX4 ∧ yX4_lower.cls ≠ "java/lang/invoke/MethodHandle" ∧ yX4_lower.cls ≠ "java/lang/invoke/VarHandle" ∧ (parseMethodDescriptor yX4_lower.desc).map (fun d => d.parameters.length) = some 2 := by decide +kernel
theorem hdX4_costOf : yX4_costOf.cls = RX4 ∧ yX4_costOf.cls ≠ "java/lang/invoke/MethodHandle" ∧ yX4_costOf.cls ≠ "java/lang/invoke/VarHandle" ∧ (parseMethodDescriptor yX4_costOf.desc).map (fun d => d.parameters.length) = some 3 := by decide +kernel
theorem hdX4_ofArgument : yX4_ofArgument.cls = RX4 ∧ yX4_ofArgument.cls ≠ "java/lang/invoke/MethodHandle" ∧ yX4_ofArgument.cls ≠ "java/lang/invoke/VarHandle" ∧ (parseMethodDescriptor yX4_ofArgument.desc).map (fun d => d.parameters.length) = some 2 := by decide +kernel
theorem hdX4_ofTerm : yX4_ofTerm.cls = RX4 ∧ yX4_ofTerm.cls ≠ "java/lang/invoke/MethodHandle" ∧ yX4_ofTerm.cls ≠ "java/lang/invoke/VarHandle" ∧ (parseMethodDescriptor yX4_ofTerm.desc).map (fun d => d.parameters.length) = some 2 := by decide +kernel
theorem hdX4_lightest : yX4_lightest.cls = RX4 ∧ yX4_lightest.cls ≠ "java/lang/invoke/MethodHandle" ∧ yX4_lightest.cls ≠ "java/lang/invoke/VarHandle" ∧ (parseMethodDescriptor yX4_lightest.desc).map (fun d => d.parameters.length) = some 3 := by decide +kernel
theorem hdX4_symbolAt : yX4_symbolAt.cls = RX4 ∧ yX4_symbolAt.cls ≠ "java/lang/invoke/MethodHandle" ∧ yX4_symbolAt.cls ≠ "java/lang/invoke/VarHandle" ∧ (parseMethodDescriptor yX4_symbolAt.desc).map (fun d => d.parameters.length) = some 4 := by decide +kernel
theorem hdX5_init : yX5_init.cls = RX5 ∧ yX5_init.cls ≠ "java/lang/invoke/MethodHandle" ∧ yX5_init.cls ≠ "java/lang/invoke/VarHandle" ∧ (parseMethodDescriptor yX5_init.desc).map (fun d => d.parameters.length) = some 0 := by decide +kernel
theorem hdX5_make : yX5_make.cls = RX5 ∧ yX5_make.cls ≠ "java/lang/invoke/MethodHandle" ∧ yX5_make.cls ≠ "java/lang/invoke/VarHandle" ∧ (parseMethodDescriptor yX5_make.desc).map (fun d => d.parameters.length) = some 3 := by decide +kernel
theorem hdX5_equate : yX5_equate.cls = RX5 ∧ yX5_equate.cls ≠ "java/lang/invoke/MethodHandle" ∧ yX5_equate.cls ≠ "java/lang/invoke/VarHandle" ∧ (parseMethodDescriptor yX5_equate.desc).map (fun d => d.parameters.length) = some 2 := by decide +kernel
theorem hdX5_differ : yX5_differ.cls = RX5 ∧ yX5_differ.cls ≠ "java/lang/invoke/MethodHandle" ∧ yX5_differ.cls ≠ "java/lang/invoke/VarHandle" ∧ (parseMethodDescriptor yX5_differ.desc).map (fun d => d.parameters.length) = some 2 := by decide +kernel
theorem hdX5_open : yX5_open.cls = RX5 ∧ yX5_open.cls ≠ "java/lang/invoke/MethodHandle" ∧ yX5_open.cls ≠ "java/lang/invoke/VarHandle" ∧ (parseMethodDescriptor yX5_open.desc).map (fun d => d.parameters.length) = some 0 := by decide +kernel
theorem hdX5_close : yX5_close.cls = RX5 ∧ yX5_close.cls ≠ "java/lang/invoke/MethodHandle" ∧ yX5_close.cls ≠ "java/lang/invoke/VarHandle" ∧ (parseMethodDescriptor yX5_close.desc).map (fun d => d.parameters.length) = some 0 := by decide +kernel
theorem hdX5_equal : yX5_equal.cls = RX5 ∧ yX5_equal.cls ≠ "java/lang/invoke/MethodHandle" ∧ yX5_equal.cls ≠ "java/lang/invoke/VarHandle" ∧ (parseMethodDescriptor yX5_equal.desc).map (fun d => d.parameters.length) = some 2 := by decide +kernel
theorem hdX5_apart : yX5_apart.cls = RX5 ∧ yX5_apart.cls ≠ "java/lang/invoke/MethodHandle" ∧ yX5_apart.cls ≠ "java/lang/invoke/VarHandle" ∧ (parseMethodDescriptor yX5_apart.desc).map (fun d => d.parameters.length) = some 2 := by decide +kernel
theorem hdX5_consistent : yX5_consistent.cls = RX5 ∧ yX5_consistent.cls ≠ "java/lang/invoke/MethodHandle" ∧ yX5_consistent.cls ≠ "java/lang/invoke/VarHandle" ∧ (parseMethodDescriptor yX5_consistent.desc).map (fun d => d.parameters.length) = some 0 := by decide +kernel
theorem hdX5_leader : yX5_leader.cls = RX5 ∧ yX5_leader.cls ≠ "java/lang/invoke/MethodHandle" ∧ yX5_leader.cls ≠ "java/lang/invoke/VarHandle" ∧ (parseMethodDescriptor yX5_leader.desc).map (fun d => d.parameters.length) = some 1 := by decide +kernel
theorem hdX5_members : yX5_members.cls = RX5 ∧ yX5_members.cls ≠ "java/lang/invoke/MethodHandle" ∧ yX5_members.cls ≠ "java/lang/invoke/VarHandle" ∧ (parseMethodDescriptor yX5_members.desc).map (fun d => d.parameters.length) = some 1 := by decide +kernel
theorem hdX5_classes : yX5_classes.cls = RX5 ∧ yX5_classes.cls ≠ "java/lang/invoke/MethodHandle" ∧ yX5_classes.cls ≠ "java/lang/invoke/VarHandle" ∧ (parseMethodDescriptor yX5_classes.desc).map (fun d => d.parameters.length) = some 0 := by decide +kernel
theorem hdX5_find : yX5_find.cls = RX5 ∧ yX5_find.cls ≠ "java/lang/invoke/MethodHandle" ∧ yX5_find.cls ≠ "java/lang/invoke/VarHandle" ∧ (parseMethodDescriptor yX5_find.desc).map (fun d => d.parameters.length) = some 3 := by decide +kernel
theorem hdX5_since : yX5_since.cls = RX5 ∧ yX5_since.cls ≠ "java/lang/invoke/MethodHandle" ∧ yX5_since.cls ≠ "java/lang/invoke/VarHandle" ∧ (parseMethodDescriptor yX5_since.desc).map (fun d => d.parameters.length) = some 2 := by decide +kernel
theorem hdX5_explanation : yX5_explanation.cls = RX5 ∧ yX5_explanation.cls ≠ "java/lang/invoke/MethodHandle" ∧ yX5_explanation.cls ≠ "java/lang/invoke/VarHandle" ∧ (parseMethodDescriptor yX5_explanation.desc).map (fun d => d.parameters.length) = some 2 := by decide +kernel
theorem hdX5_needed : yX5_needed.cls = RX5 ∧ yX5_needed.cls ≠ "java/lang/invoke/MethodHandle" ∧ yX5_needed.cls ≠ "java/lang/invoke/VarHandle" ∧ (parseMethodDescriptor yX5_needed.desc).map (fun d => d.parameters.length) = some 2 := by decide +kernel
theorem hdX5_weight : yX5_weight.cls = RX5 ∧ yX5_weight.cls ≠ "java/lang/invoke/MethodHandle" ∧ yX5_weight.cls ≠ "java/lang/invoke/VarHandle" ∧ (parseMethodDescriptor yX5_weight.desc).map (fun d => d.parameters.length) = some 1 := by decide +kernel
theorem hdX5_best : yX5_best.cls = RX5 ∧ yX5_best.cls ≠ "java/lang/invoke/MethodHandle" ∧ yX5_best.cls ≠ "java/lang/invoke/VarHandle" ∧ (parseMethodDescriptor yX5_best.desc).map (fun d => d.parameters.length) = some 1 := by decide +kernel
theorem hdX5_written : yX5_written.cls = RX5 ∧ yX5_written.cls ≠ "java/lang/invoke/MethodHandle" ∧ yX5_written.cls ≠ "java/lang/invoke/VarHandle" ∧ (parseMethodDescriptor yX5_written.desc).map (fun d => d.parameters.length) = some 2 := by decide +kernel
theorem hdX5_terms : yX5_terms.cls = RX5 ∧ yX5_terms.cls ≠ "java/lang/invoke/MethodHandle" ∧ yX5_terms.cls ≠ "java/lang/invoke/VarHandle" ∧ (parseMethodDescriptor yX5_terms.desc).map (fun d => d.parameters.length) = some 0 := by decide +kernel
theorem hdX5_equations : yX5_equations.cls = RX5 ∧ yX5_equations.cls ≠ "java/lang/invoke/MethodHandle" ∧ yX5_equations.cls ≠ "java/lang/invoke/VarHandle" ∧ (parseMethodDescriptor yX5_equations.desc).map (fun d => d.parameters.length) = some 0 := by decide +kernel
theorem hdX5_isTerm : yX5_isTerm.cls = RX5 ∧ yX5_isTerm.cls ≠ "java/lang/invoke/MethodHandle" ∧ yX5_isTerm.cls ≠ "java/lang/invoke/VarHandle" ∧ (parseMethodDescriptor yX5_isTerm.desc).map (fun d => d.parameters.length) = some 1 := by decide +kernel
theorem hdX5_areTerms : yX5_areTerms.cls = RX5 ∧ yX5_areTerms.cls ≠ "java/lang/invoke/MethodHandle" ∧ yX5_areTerms.cls ≠ "java/lang/invoke/VarHandle" ∧ (parseMethodDescriptor yX5_areTerms.desc).map (fun d => d.parameters.length) = some 2 := by decide +kernel
theorem hdX5_isShape : yX5_isShape.cls = RX5 ∧ yX5_isShape.cls ≠ "java/lang/invoke/MethodHandle" ∧ yX5_isShape.cls ≠ "java/lang/invoke/VarHandle" ∧ (parseMethodDescriptor yX5_isShape.desc).map (fun d => d.parameters.length) = some 3 := by decide +kernel
theorem hdX5_settleCurrent : yX5_settleCurrent.cls = RX5 ∧ yX5_settleCurrent.cls ≠ "java/lang/invoke/MethodHandle" ∧ yX5_settleCurrent.cls ≠ "java/lang/invoke/VarHandle" ∧ (parseMethodDescriptor yX5_settleCurrent.desc).map (fun d => d.parameters.length) = some 0 := by decide +kernel
theorem hdX5_followsFrom : yX5_followsFrom.cls = RX5 ∧ yX5_followsFrom.cls ≠ "java/lang/invoke/MethodHandle" ∧ yX5_followsFrom.cls ≠ "java/lang/invoke/VarHandle" ∧ (parseMethodDescriptor yX5_followsFrom.desc).map (fun d => d.parameters.length) = some 3 := by decide +kernel
theorem hdX5_allBelow : yX5_allBelow.cls = RX5 ∧ yX5_allBelow.cls ≠ "java/lang/invoke/MethodHandle" ∧ yX5_allBelow.cls ≠ "java/lang/invoke/VarHandle" ∧ (parseMethodDescriptor yX5_allBelow.desc).map (fun d => d.parameters.length) = some 1 := by decide +kernel
theorem hdX6_init : yX6_init.cls = RX6 ∧ yX6_init.cls ≠ "java/lang/invoke/MethodHandle" ∧ yX6_init.cls ≠ "java/lang/invoke/VarHandle" ∧ (parseMethodDescriptor yX6_init.desc).map (fun d => d.parameters.length) = some 0 := by decide +kernel
theorem hdX6_isTerm : yX6_isTerm.cls = RX6 ∧ yX6_isTerm.cls ≠ "java/lang/invoke/MethodHandle" ∧ yX6_isTerm.cls ≠ "java/lang/invoke/VarHandle" ∧ (parseMethodDescriptor yX6_isTerm.desc).map (fun d => d.parameters.length) = some 1 := by decide +kernel
theorem hdX6_alone : yX6_alone.cls = RX6 ∧ yX6_alone.cls ≠ "java/lang/invoke/MethodHandle" ∧ yX6_alone.cls ≠ "java/lang/invoke/VarHandle" ∧ (parseMethodDescriptor yX6_alone.desc).map (fun d => d.parameters.length) = some 0 := by decide +kernel
theorem hdX6_join : yX6_join.cls = RX6 ∧ yX6_join.cls ≠ "java/lang/invoke/MethodHandle" ∧ yX6_join.cls ≠ "java/lang/invoke/VarHandle" ∧ (parseMethodDescriptor yX6_join.desc).map (fun d => d.parameters.length) = some 2 := by decide +kernel
theorem hdX6_sameArgument : yX6_sameArgument.cls = RX6 ∧ yX6_sameArgument.cls ≠ "java/lang/invoke/MethodHandle" ∧ yX6_sameArgument.cls ≠ "java/lang/invoke/VarHandle" ∧ (parseMethodDescriptor yX6_sameArgument.desc).map (fun d => d.parameters.length) = some 2 := by decide +kernel
theorem hdX6_alike : yX6_alike.cls = RX6 ∧ yX6_alike.cls ≠ "java/lang/invoke/MethodHandle" ∧ yX6_alike.cls ≠ "java/lang/invoke/VarHandle" ∧ (parseMethodDescriptor yX6_alike.desc).map (fun d => d.parameters.length) = some 2 := by decide +kernel
theorem hdX6_settle : yX6_settle.cls = RX6 ∧ yX6_settle.cls ≠ "java/lang/invoke/MethodHandle" ∧ yX6_settle.cls ≠ "java/lang/invoke/VarHandle" ∧ (parseMethodDescriptor yX6_settle.desc).map (fun d => d.parameters.length) = some 0 := by decide +kernel
theorem hdX6_work : yX6_work.cls = RX6 ∧ yX6_work.cls ≠ "java/lang/invoke/MethodHandle" ∧ yX6_work.cls ≠ "java/lang/invoke/VarHandle" ∧ (parseMethodDescriptor yX6_work.desc).map (fun d => d.parameters.length) = some 2 := by decide +kernel
theorem hdX6_workAll : yX6_workAll.cls = RX6 ∧ yX6_workAll.cls ≠ "java/lang/invoke/MethodHandle" ∧ yX6_workAll.cls ≠ "java/lang/invoke/VarHandle" ∧ (parseMethodDescriptor yX6_workAll.desc).map (fun d => d.parameters.length) = some 0 := by decide +kernel
theorem hdX6_joined : yX6_joined.cls = RX6 ∧ yX6_joined.cls ≠ "java/lang/invoke/MethodHandle" ∧ yX6_joined.cls ≠ "java/lang/invoke/VarHandle" ∧ (parseMethodDescriptor yX6_joined.desc).map (fun d => d.parameters.length) = some 2 := by decide +kernel
theorem hdX6_first : yX6_first.cls = RX6 ∧ yX6_first.cls ≠ "java/lang/invoke/MethodHandle" ∧ yX6_first.cls ≠ "java/lang/invoke/VarHandle" ∧ (parseMethodDescriptor yX6_first.desc).map (fun d => d.parameters.length) = some 3 := by decide +kernel
theorem hdX6_kinds : yX6_kinds.cls = RX6 ∧ yX6_kinds.cls ≠ "java/lang/invoke/MethodHandle" ∧ yX6_kinds.cls ≠ "java/lang/invoke/VarHandle" ∧ (parseMethodDescriptor yX6_kinds.desc).map (fun d => d.parameters.length) = some 0 := by decide +kernel
theorem hdX6_wrongParts : yX6_wrongParts.cls = RX6 ∧ yX6_wrongParts.cls ≠ "java/lang/invoke/MethodHandle" ∧ yX6_wrongParts.cls ≠ "java/lang/invoke/VarHandle" ∧ (parseMethodDescriptor yX6_wrongParts.desc).map (fun d => d.parameters.length) = some 3 := by decide +kernel
theorem hdX6_make : yX6_make.cls = RX6 ∧ yX6_make.cls ≠ "java/lang/invoke/MethodHandle" ∧ yX6_make.cls ≠ "java/lang/invoke/VarHandle" ∧ (parseMethodDescriptor yX6_make.desc).map (fun d => d.parameters.length) = some 3 := by decide +kernel
theorem hdX6_equate : yX6_equate.cls = RX6 ∧ yX6_equate.cls ≠ "java/lang/invoke/MethodHandle" ∧ yX6_equate.cls ≠ "java/lang/invoke/VarHandle" ∧ (parseMethodDescriptor yX6_equate.desc).map (fun d => d.parameters.length) = some 2 := by decide +kernel
theorem hdX6_differ : yX6_differ.cls = RX6 ∧ yX6_differ.cls ≠ "java/lang/invoke/MethodHandle" ∧ yX6_differ.cls ≠ "java/lang/invoke/VarHandle" ∧ (parseMethodDescriptor yX6_differ.desc).map (fun d => d.parameters.length) = some 2 := by decide +kernel
theorem hdX6_open : yX6_open.cls = RX6 ∧ yX6_open.cls ≠ "java/lang/invoke/MethodHandle" ∧ yX6_open.cls ≠ "java/lang/invoke/VarHandle" ∧ (parseMethodDescriptor yX6_open.desc).map (fun d => d.parameters.length) = some 0 := by decide +kernel
theorem hdX6_close : yX6_close.cls = RX6 ∧ yX6_close.cls ≠ "java/lang/invoke/MethodHandle" ∧ yX6_close.cls ≠ "java/lang/invoke/VarHandle" ∧ (parseMethodDescriptor yX6_close.desc).map (fun d => d.parameters.length) = some 0 := by decide +kernel
theorem hdX6_equal : yX6_equal.cls = RX6 ∧ yX6_equal.cls ≠ "java/lang/invoke/MethodHandle" ∧ yX6_equal.cls ≠ "java/lang/invoke/VarHandle" ∧ (parseMethodDescriptor yX6_equal.desc).map (fun d => d.parameters.length) = some 2 := by decide +kernel
theorem hdX6_apart : yX6_apart.cls = RX6 ∧ yX6_apart.cls ≠ "java/lang/invoke/MethodHandle" ∧ yX6_apart.cls ≠ "java/lang/invoke/VarHandle" ∧ (parseMethodDescriptor yX6_apart.desc).map (fun d => d.parameters.length) = some 2 := by decide +kernel
theorem hdX6_consistent : yX6_consistent.cls = RX6 ∧ yX6_consistent.cls ≠ "java/lang/invoke/MethodHandle" ∧ yX6_consistent.cls ≠ "java/lang/invoke/VarHandle" ∧ (parseMethodDescriptor yX6_consistent.desc).map (fun d => d.parameters.length) = some 0 := by decide +kernel
theorem hdX6_leader : yX6_leader.cls = RX6 ∧ yX6_leader.cls ≠ "java/lang/invoke/MethodHandle" ∧ yX6_leader.cls ≠ "java/lang/invoke/VarHandle" ∧ (parseMethodDescriptor yX6_leader.desc).map (fun d => d.parameters.length) = some 1 := by decide +kernel
theorem hdX6_members : yX6_members.cls = RX6 ∧ yX6_members.cls ≠ "java/lang/invoke/MethodHandle" ∧ yX6_members.cls ≠ "java/lang/invoke/VarHandle" ∧ (parseMethodDescriptor yX6_members.desc).map (fun d => d.parameters.length) = some 1 := by decide +kernel
theorem hdX6_classes : yX6_classes.cls = RX6 ∧ yX6_classes.cls ≠ "java/lang/invoke/MethodHandle" ∧ yX6_classes.cls ≠ "java/lang/invoke/VarHandle" ∧ (parseMethodDescriptor yX6_classes.desc).map (fun d => d.parameters.length) = some 0 := by decide +kernel
theorem hdX6_find : yX6_find.cls = RX6 ∧ yX6_find.cls ≠ "java/lang/invoke/MethodHandle" ∧ yX6_find.cls ≠ "java/lang/invoke/VarHandle" ∧ (parseMethodDescriptor yX6_find.desc).map (fun d => d.parameters.length) = some 3 := by decide +kernel
theorem hdX6_since : yX6_since.cls = RX6 ∧ yX6_since.cls ≠ "java/lang/invoke/MethodHandle" ∧ yX6_since.cls ≠ "java/lang/invoke/VarHandle" ∧ (parseMethodDescriptor yX6_since.desc).map (fun d => d.parameters.length) = some 2 := by decide +kernel
theorem hdX6_explanation : yX6_explanation.cls = RX6 ∧ yX6_explanation.cls ≠ "java/lang/invoke/MethodHandle" ∧ yX6_explanation.cls ≠ "java/lang/invoke/VarHandle" ∧ (parseMethodDescriptor yX6_explanation.desc).map (fun d => d.parameters.length) = some 2 := by decide +kernel
theorem hdX6_needed : yX6_needed.cls = RX6 ∧ yX6_needed.cls ≠ "java/lang/invoke/MethodHandle" ∧ yX6_needed.cls ≠ "java/lang/invoke/VarHandle" ∧ (parseMethodDescriptor yX6_needed.desc).map (fun d => d.parameters.length) = some 2 := by decide +kernel
theorem hdX6_argument : yX6_argument.cls = RX6 ∧ yX6_argument.cls ≠ "java/lang/invoke/MethodHandle" ∧ yX6_argument.cls ≠ "java/lang/invoke/VarHandle" ∧ (parseMethodDescriptor yX6_argument.desc).map (fun d => d.parameters.length) = some 1 := by decide +kernel
theorem hdX6_sum : yX6_sum.cls = RX6 ∧ yX6_sum.cls ≠ "java/lang/invoke/MethodHandle" ∧ yX6_sum.cls ≠ "java/lang/invoke/VarHandle" ∧ (parseMethodDescriptor yX6_sum.desc).map (fun d => d.parameters.length) = some 1 := by decide +kernel
theorem hdX6_weigh : yX6_weigh.cls = RX6 ∧ yX6_weigh.cls ≠ "java/lang/invoke/MethodHandle" ∧ yX6_weigh.cls ≠ "java/lang/invoke/VarHandle" ∧ (parseMethodDescriptor yX6_weigh.desc).map (fun d => d.parameters.length) = some 0 := by decide +kernel
theorem hdX6_bestOf : yX6_bestOf.cls = RX6 ∧ yX6_bestOf.cls ≠ "java/lang/invoke/MethodHandle" ∧ yX6_bestOf.cls ≠ "java/lang/invoke/VarHandle" ∧ (parseMethodDescriptor yX6_bestOf.desc).map (fun d => d.parameters.length) = some 1 := by decide +kernel
theorem hdX6_weight : yX6_weight.cls = RX6 ∧ yX6_weight.cls ≠ "java/lang/invoke/MethodHandle" ∧ yX6_weight.cls ≠ "java/lang/invoke/VarHandle" ∧ (parseMethodDescriptor yX6_weight.desc).map (fun d => d.parameters.length) = some 1 := by decide +kernel
theorem hdX6_best : yX6_best.cls = RX6 ∧ yX6_best.cls ≠ "java/lang/invoke/MethodHandle" ∧ yX6_best.cls ≠ "java/lang/invoke/VarHandle" ∧ (parseMethodDescriptor yX6_best.desc).map (fun d => d.parameters.length) = some 1 := by decide +kernel
theorem hdX6_written : yX6_written.cls = RX6 ∧ yX6_written.cls ≠ "java/lang/invoke/MethodHandle" ∧ yX6_written.cls ≠ "java/lang/invoke/VarHandle" ∧ (parseMethodDescriptor yX6_written.desc).map (fun d => d.parameters.length) = some 2 := by decide +kernel
theorem hdX6_terms : yX6_terms.cls = RX6 ∧ yX6_terms.cls ≠ "java/lang/invoke/MethodHandle" ∧ yX6_terms.cls ≠ "java/lang/invoke/VarHandle" ∧ (parseMethodDescriptor yX6_terms.desc).map (fun d => d.parameters.length) = some 0 := by decide +kernel
theorem hdX6_equations : yX6_equations.cls = RX6 ∧ yX6_equations.cls ≠ "java/lang/invoke/MethodHandle" ∧ yX6_equations.cls ≠ "java/lang/invoke/VarHandle" ∧ (parseMethodDescriptor yX6_equations.desc).map (fun d => d.parameters.length) = some 0 := by decide +kernel
theorem gv_X5_52 {c1 : Cond} : GoodIn (c1 :: tbw) (wsV RX5 52 RX5 yX5_isShape (.code yX5_isShape cX5_isShape 4 (some .boolean) :: tbw)) := tb_in (tb_all (List.forall_mem_cons.mpr ⟨tw_141, List.forall_mem_cons.mpr ⟨tw_143, List.forall_mem_cons.mpr ⟨ts_0, List.forall_mem_cons.mpr ⟨tw_1, fun _ h => absurd h List.not_mem_nil⟩⟩⟩⟩) tw_144)
theorem gv_X5_112 {c1 : Cond} : GoodIn (c1 :: tbw) (wsV RX5 112 RX5 yX5_isTerm (.code yX5_isTerm cX5_isTerm 2 (some .boolean) :: tbw)) := tb_in (tb_all (List.forall_mem_cons.mpr ⟨tw_145, List.forall_mem_cons.mpr ⟨tw_147, List.forall_mem_cons.mpr ⟨ts_1, List.forall_mem_cons.mpr ⟨tw_1, fun _ h => absurd h List.not_mem_nil⟩⟩⟩⟩) tw_148)
theorem gv_X5_56 {c1 : Cond} : GoodIn (c1 :: tbw) (wsV RX5 56 RX3 yX3_numberOf (.code yX3_numberOf cX3_numberOf 5 (some .int) :: tbw)) := tb_in (tb_all (List.forall_mem_cons.mpr ⟨tw_149, List.forall_mem_cons.mpr ⟨tw_150, List.forall_mem_cons.mpr ⟨tw_151, List.forall_mem_cons.mpr ⟨tw_2, fun _ h => absurd h List.not_mem_nil⟩⟩⟩⟩) tw_152)
theorem gv_X5_64 {c1 : Cond} : GoodIn (c1 :: tbw) (wsV RX5 64 RX3 yX3_add (.code yX3_add cX3_add 4 (some .int) :: tbw)) := tb_in (tb_all (List.forall_mem_cons.mpr ⟨tw_153, List.forall_mem_cons.mpr ⟨tw_154, List.forall_mem_cons.mpr ⟨tw_155, List.forall_mem_cons.mpr ⟨tw_2, fun _ h => absurd h List.not_mem_nil⟩⟩⟩⟩) tw_156)
theorem gv_X5_67 {c1 : Cond} : GoodIn (c1 :: tbw) (wsV RX5 67 RX5 yX5_settleCurrent (.code yX5_settleCurrent cX5_settleCurrent 1 none :: tbw)) := tb_in (tb_all (List.forall_mem_cons.mpr ⟨tw_157, List.forall_mem_cons.mpr ⟨tw_159, List.forall_mem_cons.mpr ⟨ts_2, List.forall_mem_cons.mpr ⟨tw_1, fun _ h => absurd h List.not_mem_nil⟩⟩⟩⟩) tw_160)
theorem gv_X5_123 {c1 : Cond} : GoodIn (c1 :: tbw) (wsS RX5 123 yX5_allBelow (.code yX5_allBelow cX5_allBelow 1 (some .int) :: tbw)) := tb_in (tb_all (List.forall_mem_cons.mpr ⟨tw_161, List.forall_mem_cons.mpr ⟨tw_162, List.forall_mem_cons.mpr ⟨tw_1, fun _ h => absurd h List.not_mem_nil⟩⟩⟩) tw_163)
theorem gv_X5_145 {c1 : Cond} : GoodIn (c1 :: tbw) (wsV RX5 145 RX2 yX2_settle (.code yX2_settle cX2_settle 6 none :: tbw)) := tb_in (tb_all (List.forall_mem_cons.mpr ⟨tw_164, List.forall_mem_cons.mpr ⟨tw_165, List.forall_mem_cons.mpr ⟨tw_166, List.forall_mem_cons.mpr ⟨tw_5, fun _ h => absurd h List.not_mem_nil⟩⟩⟩⟩) tw_167)
theorem gv_X2_46 {c1 : Cond} : GoodIn (c1 :: tbw) (wsV RX2 46 RX2 yX2_merge (.code yX2_merge cX2_merge 7 none :: tbw)) := tb_in (tb_all (List.forall_mem_cons.mpr ⟨tw_168, List.forall_mem_cons.mpr ⟨tw_170, List.forall_mem_cons.mpr ⟨ts_3, List.forall_mem_cons.mpr ⟨tw_5, fun _ h => absurd h List.not_mem_nil⟩⟩⟩⟩) tw_171)
theorem gv_X2_50 {c1 : Cond} : GoodIn (c1 :: tbw) (wsV RX2 50 RX2 yX2_mergeCongruent (.code yX2_mergeCongruent cX2_mergeCongruent 5 (some .boolean) :: tbw)) := tb_in (tb_all (List.forall_mem_cons.mpr ⟨tw_178, List.forall_mem_cons.mpr ⟨tw_180, List.forall_mem_cons.mpr ⟨ts_4, List.forall_mem_cons.mpr ⟨tw_5, fun _ h => absurd h List.not_mem_nil⟩⟩⟩⟩) tw_181)
theorem gv_X2_30 {c1 : Cond} : GoodIn (c1 :: tbw) (wsV RX2 30 RX2 yX2_joins (.code yX2_joins cX2_joins 3 (some .boolean) :: tbw)) := tb_in (tb_all (List.forall_mem_cons.mpr ⟨tw_182, List.forall_mem_cons.mpr ⟨tw_183, List.forall_mem_cons.mpr ⟨tw_184, List.forall_mem_cons.mpr ⟨tw_5, fun _ h => absurd h List.not_mem_nil⟩⟩⟩⟩) tw_185)
theorem gv_X2_54 {c1 : Cond} : GoodIn (c1 :: tbw) (wsV RX2 54 RX2 yX2_congruent (.code yX2_congruent cX2_congruent 4 (some .boolean) :: tbw)) := tb_in (tb_all (List.forall_mem_cons.mpr ⟨tw_186, List.forall_mem_cons.mpr ⟨tw_188, List.forall_mem_cons.mpr ⟨ts_5, List.forall_mem_cons.mpr ⟨tw_5, fun _ h => absurd h List.not_mem_nil⟩⟩⟩⟩) tw_189)
theorem gv_X2_58 {c1 : Cond} : GoodIn (c1 :: tbw) (wsV RX2 58 RX2 yX2_fits (.code yX2_fits cX2_fits 6 (some .boolean) :: tbw)) := tb_in (tb_all (List.forall_mem_cons.mpr ⟨tw_190, List.forall_mem_cons.mpr ⟨tw_191, List.forall_mem_cons.mpr ⟨tw_192, List.forall_mem_cons.mpr ⟨tw_5, fun _ h => absurd h List.not_mem_nil⟩⟩⟩⟩) tw_193)
theorem gv_X2_23 {c1 : Cond} : GoodIn (c1 :: tbw) (wsV RX2 23 RX2 yX2_sameArgument (.code yX2_sameArgument cX2_sameArgument 3 (some .boolean) :: tbw)) := tb_in (tb_all (List.forall_mem_cons.mpr ⟨tw_194, List.forall_mem_cons.mpr ⟨tw_196, List.forall_mem_cons.mpr ⟨ts_6, List.forall_mem_cons.mpr ⟨tw_5, fun _ h => absurd h List.not_mem_nil⟩⟩⟩⟩) tw_197)
theorem gv_X5_70 {c1 : Cond} : GoodIn (c1 :: tbw) (wsV RX5 70 RX5 yX5_areTerms (.code yX5_areTerms cX5_areTerms 3 (some .boolean) :: tbw)) := tb_in (tb_all (List.forall_mem_cons.mpr ⟨tw_202, List.forall_mem_cons.mpr ⟨tw_204, List.forall_mem_cons.mpr ⟨ts_7, List.forall_mem_cons.mpr ⟨tw_1, fun _ h => absurd h List.not_mem_nil⟩⟩⟩⟩) tw_205)
theorem gv_X5_74 {c1 : Cond} : GoodIn (c1 :: tbw) (wsV RX5 74 RX1 yX1_isFull (.code yX1_isFull cX1_isFull 1 (some .boolean) :: tbw)) := tb_in (tb_all (List.forall_mem_cons.mpr ⟨tw_206, List.forall_mem_cons.mpr ⟨tw_207, List.forall_mem_cons.mpr ⟨tw_208, List.forall_mem_cons.mpr ⟨tw_3, fun _ h => absurd h List.not_mem_nil⟩⟩⟩⟩) tw_209)
theorem gv_X5_78 {c1 : Cond} : GoodIn (c1 :: tbw) (wsV RX5 78 RX2 yX2_classCount (.code yX2_classCount cX2_classCount 4 (some .int) :: tbw)) := tb_in (tb_all (List.forall_mem_cons.mpr ⟨tw_210, List.forall_mem_cons.mpr ⟨tw_211, List.forall_mem_cons.mpr ⟨tw_212, List.forall_mem_cons.mpr ⟨tw_5, fun _ h => absurd h List.not_mem_nil⟩⟩⟩⟩) tw_213)
theorem gv_X5_82 {c1 : Cond} : GoodIn (c1 :: tbw) (wsV RX5 82 RX1 yX1_add (.code yX1_add cX1_add 3 (some .int) :: tbw)) := tb_in (tb_all (List.forall_mem_cons.mpr ⟨tw_214, List.forall_mem_cons.mpr ⟨tw_215, List.forall_mem_cons.mpr ⟨tw_216, List.forall_mem_cons.mpr ⟨tw_3, fun _ h => absurd h List.not_mem_nil⟩⟩⟩⟩) tw_217)
theorem gv_X5_89 {c1 : Cond} : GoodIn (c1 :: tbw) (wsV RX5 89 RX0 yX0_push (.code yX0_push cX0_push 4 none :: tbw)) := tb_in (tb_all (List.forall_mem_cons.mpr ⟨tw_226, List.forall_mem_cons.mpr ⟨tw_227, List.forall_mem_cons.mpr ⟨tw_228, List.forall_mem_cons.mpr ⟨tw_4, fun _ h => absurd h List.not_mem_nil⟩⟩⟩⟩) tw_229)
theorem gv_X5_103 {c1 : Cond} : GoodIn (c1 :: tbw) (wsV RX5 103 RX2 yX2_joins (.code yX2_joins cX2_joins 3 (some .boolean) :: tbw)) := tb_in (tb_all (List.forall_mem_cons.mpr ⟨tw_238, List.forall_mem_cons.mpr ⟨tw_183, List.forall_mem_cons.mpr ⟨tw_184, List.forall_mem_cons.mpr ⟨tw_5, fun _ h => absurd h List.not_mem_nil⟩⟩⟩⟩) tw_185)
theorem gv_X5_119 {c1 : Cond} : GoodIn (c1 :: tbw) (wsV RX5 119 RX2 yX2_fits (.code yX2_fits cX2_fits 6 (some .boolean) :: tbw)) := tb_in (tb_all (List.forall_mem_cons.mpr ⟨tw_263, List.forall_mem_cons.mpr ⟨tw_191, List.forall_mem_cons.mpr ⟨tw_192, List.forall_mem_cons.mpr ⟨tw_5, fun _ h => absurd h List.not_mem_nil⟩⟩⟩⟩) tw_193)
theorem gv_X5_126 {c1 : Cond} : GoodIn (c1 :: tbw) (wsV RX5 126 RX5 yX5_followsFrom (.code yX5_followsFrom cX5_followsFrom 4 (some .boolean) :: tbw)) := tb_in (tb_all (List.forall_mem_cons.mpr ⟨tw_268, List.forall_mem_cons.mpr ⟨tw_270, List.forall_mem_cons.mpr ⟨ts_8, List.forall_mem_cons.mpr ⟨tw_1, fun _ h => absurd h List.not_mem_nil⟩⟩⟩⟩) tw_271)
theorem gv_X5_129 {c1 : Cond} : GoodIn (c1 :: tbw) (wsV RX5 129 RX4 yX4_weigh (.code yX4_weigh cX4_weigh 5 none :: tbw)) := tb_in (tb_all (List.forall_mem_cons.mpr ⟨tw_284, List.forall_mem_cons.mpr ⟨tw_285, List.forall_mem_cons.mpr ⟨tw_286, List.forall_mem_cons.mpr ⟨tw_6, fun _ h => absurd h List.not_mem_nil⟩⟩⟩⟩) tw_287)
theorem gv_X4_29 {c1 : Cond} : GoodIn (c1 :: tbw) (wsV RX4 29 RX4 yX4_lower (.code yX4_lower cX4_lower 7 (some .boolean) :: tbw)) := tb_in (tb_all (List.forall_mem_cons.mpr ⟨tw_292, List.forall_mem_cons.mpr ⟨tw_294, List.forall_mem_cons.mpr ⟨ts_9, List.forall_mem_cons.mpr ⟨tw_6, fun _ h => absurd h List.not_mem_nil⟩⟩⟩⟩) tw_295)
theorem gv_X4_33 {c1 : Cond} : GoodIn (c1 :: tbw) (wsV RX4 33 RX4 yX4_costOf (.code yX4_costOf cX4_costOf 4 (some .long) :: tbw)) := tb_in (tb_all (List.forall_mem_cons.mpr ⟨tw_296, List.forall_mem_cons.mpr ⟨tw_298, List.forall_mem_cons.mpr ⟨ts_10, List.forall_mem_cons.mpr ⟨tw_6, fun _ h => absurd h List.not_mem_nil⟩⟩⟩⟩) tw_299)
theorem gv_X4_46 {c1 : Cond} : GoodIn (c1 :: tbw) (wsV RX4 46 RX4 yX4_ofArgument (.code yX4_ofArgument cX4_ofArgument 3 (some .long) :: tbw)) := tb_in (tb_all (List.forall_mem_cons.mpr ⟨tw_300, List.forall_mem_cons.mpr ⟨tw_302, List.forall_mem_cons.mpr ⟨ts_11, List.forall_mem_cons.mpr ⟨tw_6, fun _ h => absurd h List.not_mem_nil⟩⟩⟩⟩) tw_303)
theorem gv_X4_53 {c1 : Cond} : GoodIn (c1 :: tbw) (wsV RX4 53 RX4 yX4_ofTerm (.code yX4_ofTerm cX4_ofTerm 3 (some .long) :: tbw)) := tb_in (tb_all (List.forall_mem_cons.mpr ⟨tw_304, List.forall_mem_cons.mpr ⟨tw_305, List.forall_mem_cons.mpr ⟨tw_306, List.forall_mem_cons.mpr ⟨tw_6, fun _ h => absurd h List.not_mem_nil⟩⟩⟩⟩) tw_307)
theorem gv_X5_133 {c1 : Cond} : GoodIn (c1 :: tbw) (wsV RX5 133 RX4 yX4_ofTerm (.code yX4_ofTerm cX4_ofTerm 3 (some .long) :: tbw)) := tb_in (tb_all (List.forall_mem_cons.mpr ⟨tw_308, List.forall_mem_cons.mpr ⟨tw_305, List.forall_mem_cons.mpr ⟨tw_306, List.forall_mem_cons.mpr ⟨tw_6, fun _ h => absurd h List.not_mem_nil⟩⟩⟩⟩) tw_307)
theorem gv_X5_137 {c1 : Cond} : GoodIn (c1 :: tbw) (wsV RX5 137 RX4 yX4_lightest (.code yX4_lightest cX4_lightest 5 (some .int) :: tbw)) := tb_in (tb_all (List.forall_mem_cons.mpr ⟨tw_313, List.forall_mem_cons.mpr ⟨tw_314, List.forall_mem_cons.mpr ⟨tw_315, List.forall_mem_cons.mpr ⟨tw_6, fun _ h => absurd h List.not_mem_nil⟩⟩⟩⟩) tw_316)
theorem gv_X4_56 {c1 : Cond} : GoodIn (c1 :: tbw) (wsV RX4 56 RX2 yX2_joins (.code yX2_joins cX2_joins 3 (some .boolean) :: tbw)) := tb_in (tb_all (List.forall_mem_cons.mpr ⟨tw_317, List.forall_mem_cons.mpr ⟨tw_183, List.forall_mem_cons.mpr ⟨tw_184, List.forall_mem_cons.mpr ⟨tw_5, fun _ h => absurd h List.not_mem_nil⟩⟩⟩⟩) tw_185)
theorem gv_X5_141 {c1 : Cond} : GoodIn (c1 :: tbw) (wsV RX5 141 RX4 yX4_symbolAt (.code yX4_symbolAt cX4_symbolAt 12 (some .int) :: tbw)) := tb_in (tb_all (List.forall_mem_cons.mpr ⟨tw_322, List.forall_mem_cons.mpr ⟨tw_323, List.forall_mem_cons.mpr ⟨tw_324, List.forall_mem_cons.mpr ⟨tw_6, fun _ h => absurd h List.not_mem_nil⟩⟩⟩⟩) tw_325)
theorem gv_X4_60 {c1 : Cond} : GoodIn (c1 :: tbw) (wsV RX4 60 RX4 yX4_lightest (.code yX4_lightest cX4_lightest 5 (some .int) :: tbw)) := tb_in (tb_all (List.forall_mem_cons.mpr ⟨tw_326, List.forall_mem_cons.mpr ⟨tw_314, List.forall_mem_cons.mpr ⟨tw_315, List.forall_mem_cons.mpr ⟨tw_6, fun _ h => absurd h List.not_mem_nil⟩⟩⟩⟩) tw_316)
theorem gv_X6_81 {c1 : Cond} : GoodIn (c1 :: tbw) (wsV RX6 81 RX6 yX6_wrongParts (.code yX6_wrongParts cX6_wrongParts 5 (some .boolean) :: tbw)) := tb_in (tb_all (List.forall_mem_cons.mpr ⟨tw_394, List.forall_mem_cons.mpr ⟨tw_396, List.forall_mem_cons.mpr ⟨ts_12, List.forall_mem_cons.mpr ⟨tw_7, fun _ h => absurd h List.not_mem_nil⟩⟩⟩⟩) tw_397)
theorem gv_X6_77 {c1 : Cond} : GoodIn (c1 :: tbw) (wsV RX6 77 RX6 yX6_isTerm (.code yX6_isTerm cX6_isTerm 2 (some .boolean) :: tbw)) := tb_in (tb_all (List.forall_mem_cons.mpr ⟨tw_398, List.forall_mem_cons.mpr ⟨tw_400, List.forall_mem_cons.mpr ⟨ts_13, List.forall_mem_cons.mpr ⟨tw_7, fun _ h => absurd h List.not_mem_nil⟩⟩⟩⟩) tw_401)
theorem gv_X6_85 {c1 : Cond} : GoodIn (c1 :: tbw) (wsV RX6 85 RX6 yX6_workAll (.code yX6_workAll cX6_workAll 1 none :: tbw)) := tb_in (tb_all (List.forall_mem_cons.mpr ⟨tw_406, List.forall_mem_cons.mpr ⟨tw_408, List.forall_mem_cons.mpr ⟨ts_14, List.forall_mem_cons.mpr ⟨tw_7, fun _ h => absurd h List.not_mem_nil⟩⟩⟩⟩) tw_409)
theorem gv_X6_71 {c1 : Cond} : GoodIn (c1 :: tbw) (wsV RX6 71 RX6 yX6_work (.code yX6_work cX6_work 4 none :: tbw)) := tb_in (tb_all (List.forall_mem_cons.mpr ⟨tw_410, List.forall_mem_cons.mpr ⟨tw_412, List.forall_mem_cons.mpr ⟨ts_15, List.forall_mem_cons.mpr ⟨tw_7, fun _ h => absurd h List.not_mem_nil⟩⟩⟩⟩) tw_413)
theorem gv_X6_62 {c1 : Cond} : GoodIn (c1 :: tbw) (wsV RX6 62 RX6 yX6_alone (.code yX6_alone cX6_alone 2 none :: tbw)) := tb_in (tb_all (List.forall_mem_cons.mpr ⟨tw_414, List.forall_mem_cons.mpr ⟨tw_416, List.forall_mem_cons.mpr ⟨ts_16, List.forall_mem_cons.mpr ⟨tw_7, fun _ h => absurd h List.not_mem_nil⟩⟩⟩⟩) tw_417)
theorem gv_X6_58 {c1 : Cond} : GoodIn (c1 :: tbw) (wsV RX6 58 RX6 yX6_join (.code yX6_join cX6_join 6 none :: tbw)) := tb_in (tb_all (List.forall_mem_cons.mpr ⟨tw_418, List.forall_mem_cons.mpr ⟨tw_420, List.forall_mem_cons.mpr ⟨ts_17, List.forall_mem_cons.mpr ⟨tw_7, fun _ h => absurd h List.not_mem_nil⟩⟩⟩⟩) tw_421)
theorem gv_X6_68 {c1 : Cond} : GoodIn (c1 :: tbw) (wsV RX6 68 RX6 yX6_settle (.code yX6_settle cX6_settle 5 none :: tbw)) := tb_in (tb_all (List.forall_mem_cons.mpr ⟨tw_422, List.forall_mem_cons.mpr ⟨tw_424, List.forall_mem_cons.mpr ⟨ts_18, List.forall_mem_cons.mpr ⟨tw_7, fun _ h => absurd h List.not_mem_nil⟩⟩⟩⟩) tw_425)
theorem gv_X6_55 {c1 : Cond} : GoodIn (c1 :: tbw) (wsV RX6 55 RX6 yX6_alike (.code yX6_alike cX6_alike 3 (some .boolean) :: tbw)) := tb_in (tb_all (List.forall_mem_cons.mpr ⟨tw_426, List.forall_mem_cons.mpr ⟨tw_428, List.forall_mem_cons.mpr ⟨ts_19, List.forall_mem_cons.mpr ⟨tw_7, fun _ h => absurd h List.not_mem_nil⟩⟩⟩⟩) tw_429)
theorem gv_X6_51 {c1 : Cond} : GoodIn (c1 :: tbw) (wsV RX6 51 RX6 yX6_sameArgument (.code yX6_sameArgument cX6_sameArgument 3 (some .boolean) :: tbw)) := tb_in (tb_all (List.forall_mem_cons.mpr ⟨tw_430, List.forall_mem_cons.mpr ⟨tw_432, List.forall_mem_cons.mpr ⟨ts_20, List.forall_mem_cons.mpr ⟨tw_7, fun _ h => absurd h List.not_mem_nil⟩⟩⟩⟩) tw_433)
theorem gv_X6_88 {c1 : Cond} : GoodIn (c1 :: tbw) (wsV RX6 88 RX6 yX6_kinds (.code yX6_kinds cX6_kinds 3 (some .int) :: tbw)) := tb_in (tb_all (List.forall_mem_cons.mpr ⟨tw_434, List.forall_mem_cons.mpr ⟨tw_436, List.forall_mem_cons.mpr ⟨ts_21, List.forall_mem_cons.mpr ⟨tw_7, fun _ h => absurd h List.not_mem_nil⟩⟩⟩⟩) tw_437)
theorem gv_X6_74 {c1 : Cond} : GoodIn (c1 :: tbw) (wsV RX6 74 RX6 yX6_joined (.code yX6_joined cX6_joined 3 (some .boolean) :: tbw)) := tb_in (tb_all (List.forall_mem_cons.mpr ⟨tw_454, List.forall_mem_cons.mpr ⟨tw_456, List.forall_mem_cons.mpr ⟨ts_22, List.forall_mem_cons.mpr ⟨tw_7, fun _ h => absurd h List.not_mem_nil⟩⟩⟩⟩) tw_457)
theorem gv_X6_98 {c1 : Cond} : GoodIn (c1 :: tbw) (wsV RX6 98 RX6 yX6_first (.code yX6_first cX6_first 5 (some .int) :: tbw)) := tb_in (tb_all (List.forall_mem_cons.mpr ⟨tw_486, List.forall_mem_cons.mpr ⟨tw_488, List.forall_mem_cons.mpr ⟨ts_23, List.forall_mem_cons.mpr ⟨tw_7, fun _ h => absurd h List.not_mem_nil⟩⟩⟩⟩) tw_489)
theorem gv_X6_109 {c1 : Cond} : GoodIn (c1 :: tbw) (wsV RX6 109 RX6 yX6_weigh (.code yX6_weigh cX6_weigh 7 none :: tbw)) := tb_in (tb_all (List.forall_mem_cons.mpr ⟨tw_502, List.forall_mem_cons.mpr ⟨tw_504, List.forall_mem_cons.mpr ⟨ts_24, List.forall_mem_cons.mpr ⟨tw_7, fun _ h => absurd h List.not_mem_nil⟩⟩⟩⟩) tw_505)
theorem gv_X6_106 {c1 : Cond} : GoodIn (c1 :: tbw) (wsV RX6 106 RX6 yX6_sum (.code yX6_sum cX6_sum 5 (some .long) :: tbw)) := tb_in (tb_all (List.forall_mem_cons.mpr ⟨tw_506, List.forall_mem_cons.mpr ⟨tw_508, List.forall_mem_cons.mpr ⟨ts_25, List.forall_mem_cons.mpr ⟨tw_7, fun _ h => absurd h List.not_mem_nil⟩⟩⟩⟩) tw_509)
theorem gv_X6_102 {c1 : Cond} : GoodIn (c1 :: tbw) (wsV RX6 102 RX6 yX6_argument (.code yX6_argument cX6_argument 2 (some .long) :: tbw)) := tb_in (tb_all (List.forall_mem_cons.mpr ⟨tw_510, List.forall_mem_cons.mpr ⟨tw_512, List.forall_mem_cons.mpr ⟨ts_26, List.forall_mem_cons.mpr ⟨tw_7, fun _ h => absurd h List.not_mem_nil⟩⟩⟩⟩) tw_513)
theorem gv_X6_112 {c1 : Cond} : GoodIn (c1 :: tbw) (wsV RX6 112 RX6 yX6_bestOf (.code yX6_bestOf cX6_bestOf 4 (some .int) :: tbw)) := tb_in (tb_all (List.forall_mem_cons.mpr ⟨tw_518, List.forall_mem_cons.mpr ⟨tw_520, List.forall_mem_cons.mpr ⟨ts_27, List.forall_mem_cons.mpr ⟨tw_7, fun _ h => absurd h List.not_mem_nil⟩⟩⟩⟩) tw_521)
end
section
theorem dX0_init_0 : decode cX0_init 0 = .ok (.aload_n 0, 1) := by decide +kernel
theorem dX0_init_1 : decode cX0_init 1 = .ok (.invokespecial 3, 3) := by decide +kernel
theorem dX0_init_4 : decode cX0_init 4 = .ok (.aload_n 0, 1) := by decide +kernel
theorem dX0_init_5 : decode cX0_init 5 = .ok (.bipush 6, 2) := by decide +kernel
theorem dX0_init_7 : decode cX0_init 7 = .ok (.newarray .int, 2) := by decide +kernel
theorem dX0_init_9 : decode cX0_init 9 = .ok (.putfield 9, 3) := by decide +kernel
theorem dX0_init_12 : decode cX0_init 12 = .ok (.aload_n 0, 1) := by decide +kernel
theorem dX0_init_13 : decode cX0_init 13 = .ok (.bipush 6, 2) := by decide +kernel
theorem dX0_init_15 : decode cX0_init 15 = .ok (.newarray .int, 2) := by decide +kernel
theorem dX0_init_17 : decode cX0_init 17 = .ok (.putfield 15, 3) := by decide +kernel
theorem dX0_init_20 : decode cX0_init 20 = .ok (.aload_n 0, 1) := by decide +kernel
theorem dX0_init_21 : decode cX0_init 21 = .ok (.bipush 6, 2) := by decide +kernel
theorem dX0_init_23 : decode cX0_init 23 = .ok (.newarray .int, 2) := by decide +kernel
theorem dX0_init_25 : decode cX0_init 25 = .ok (.putfield 18, 3) := by decide +kernel
theorem dX0_init_28 : decode cX0_init 28 = .ok (.aload_n 0, 1) := by decide +kernel
theorem dX0_init_29 : decode cX0_init 29 = .ok (.iconst 0, 1) := by decide +kernel
theorem dX0_init_30 : decode cX0_init 30 = .ok (.putfield 21, 3) := by decide +kernel
theorem dX0_init_33 : decode cX0_init 33 = .ok (.return_, 1) := by decide +kernel
theorem dX0_push_0 : decode cX0_push 0 = .ok (.aload_n 0, 1) := by decide +kernel
theorem dX0_push_1 : decode cX0_push 1 = .ok (.getfield 9, 3) := by decide +kernel
theorem dX0_push_4 : decode cX0_push 4 = .ok (.aload_n 0, 1) := by decide +kernel
theorem dX0_push_5 : decode cX0_push 5 = .ok (.getfield 21, 3) := by decide +kernel
theorem dX0_push_8 : decode cX0_push 8 = .ok (.iload_n 1, 1) := by decide +kernel
theorem dX0_push_9 : decode cX0_push 9 = .ok (.iastore, 1) := by decide +kernel
theorem dX0_push_10 : decode cX0_push 10 = .ok (.aload_n 0, 1) := by decide +kernel
theorem dX0_push_11 : decode cX0_push 11 = .ok (.getfield 15, 3) := by decide +kernel
theorem dX0_push_14 : decode cX0_push 14 = .ok (.aload_n 0, 1) := by decide +kernel
theorem dX0_push_15 : decode cX0_push 15 = .ok (.getfield 21, 3) := by decide +kernel
theorem dX0_push_18 : decode cX0_push 18 = .ok (.iload_n 2, 1) := by decide +kernel
theorem dX0_push_19 : decode cX0_push 19 = .ok (.iastore, 1) := by decide +kernel
theorem dX0_push_20 : decode cX0_push 20 = .ok (.aload_n 0, 1) := by decide +kernel
theorem dX0_push_21 : decode cX0_push 21 = .ok (.getfield 18, 3) := by decide +kernel
theorem dX0_push_24 : decode cX0_push 24 = .ok (.aload_n 0, 1) := by decide +kernel
theorem dX0_push_25 : decode cX0_push 25 = .ok (.getfield 21, 3) := by decide +kernel
theorem dX0_push_28 : decode cX0_push 28 = .ok (.iload_n 3, 1) := by decide +kernel
theorem dX0_push_29 : decode cX0_push 29 = .ok (.iastore, 1) := by decide +kernel
theorem dX0_push_30 : decode cX0_push 30 = .ok (.aload_n 0, 1) := by decide +kernel
theorem dX0_push_31 : decode cX0_push 31 = .ok (.dup, 1) := by decide +kernel
theorem dX0_push_32 : decode cX0_push 32 = .ok (.getfield 21, 3) := by decide +kernel
theorem dX0_push_35 : decode cX0_push 35 = .ok (.iconst 1, 1) := by decide +kernel
theorem dX0_push_36 : decode cX0_push 36 = .ok (.iadd, 1) := by decide +kernel
theorem dX0_push_37 : decode cX0_push 37 = .ok (.putfield 21, 3) := by decide +kernel
theorem dX0_push_40 : decode cX0_push 40 = .ok (.return_, 1) := by decide +kernel
end
section
theorem dX1_init_0 : decode cX1_init 0 = .ok (.aload_n 0, 1) := by decide +kernel
theorem dX1_init_1 : decode cX1_init 1 = .ok (.invokespecial 1, 3) := by decide +kernel
theorem dX1_init_4 : decode cX1_init 4 = .ok (.aload_n 0, 1) := by decide +kernel
theorem dX1_init_5 : decode cX1_init 5 = .ok (.iconst 0, 1) := by decide +kernel
theorem dX1_init_6 : decode cX1_init 6 = .ok (.putfield 7, 3) := by decide +kernel
theorem dX1_init_9 : decode cX1_init 9 = .ok (.aload_n 0, 1) := by decide +kernel
theorem dX1_init_10 : decode cX1_init 10 = .ok (.iload_n 1, 1) := by decide +kernel
theorem dX1_init_11 : decode cX1_init 11 = .ok (.newarray .int, 2) := by decide +kernel
theorem dX1_init_13 : decode cX1_init 13 = .ok (.putfield 13, 3) := by decide +kernel
theorem dX1_init_16 : decode cX1_init 16 = .ok (.aload_n 0, 1) := by decide +kernel
theorem dX1_init_17 : decode cX1_init 17 = .ok (.iload_n 1, 1) := by decide +kernel
theorem dX1_init_18 : decode cX1_init 18 = .ok (.newarray .int, 2) := by decide +kernel
theorem dX1_init_20 : decode cX1_init 20 = .ok (.putfield 17, 3) := by decide +kernel
theorem dX1_init_23 : decode cX1_init 23 = .ok (.return_, 1) := by decide +kernel
theorem dX1_isFull_0 : decode cX1_isFull 0 = .ok (.aload_n 0, 1) := by decide +kernel
theorem dX1_isFull_1 : decode cX1_isFull 1 = .ok (.getfield 7, 3) := by decide +kernel
theorem dX1_isFull_4 : decode cX1_isFull 4 = .ok (.aload_n 0, 1) := by decide +kernel
theorem dX1_isFull_5 : decode cX1_isFull 5 = .ok (.getfield 13, 3) := by decide +kernel
theorem dX1_isFull_8 : decode cX1_isFull 8 = .ok (.arraylength, 1) := by decide +kernel
theorem dX1_isFull_9 : decode cX1_isFull 9 = .ok (.if_icmp .lt 7, 3) := by decide +kernel
theorem dX1_isFull_12 : decode cX1_isFull 12 = .ok (.iconst 1, 1) := by decide +kernel
theorem dX1_isFull_13 : decode cX1_isFull 13 = .ok (.goto 4, 3) := by decide +kernel
theorem dX1_isFull_16 : decode cX1_isFull 16 = .ok (.iconst 0, 1) := by decide +kernel
theorem dX1_isFull_17 : decode cX1_isFull 17 = .ok (.ireturn, 1) := by decide +kernel
theorem dX1_add_0 : decode cX1_add 0 = .ok (.aload_n 0, 1) := by decide +kernel
theorem dX1_add_1 : decode cX1_add 1 = .ok (.getfield 13, 3) := by decide +kernel
theorem dX1_add_4 : decode cX1_add 4 = .ok (.aload_n 0, 1) := by decide +kernel
theorem dX1_add_5 : decode cX1_add 5 = .ok (.getfield 7, 3) := by decide +kernel
theorem dX1_add_8 : decode cX1_add 8 = .ok (.iload_n 1, 1) := by decide +kernel
theorem dX1_add_9 : decode cX1_add 9 = .ok (.iastore, 1) := by decide +kernel
theorem dX1_add_10 : decode cX1_add 10 = .ok (.aload_n 0, 1) := by decide +kernel
theorem dX1_add_11 : decode cX1_add 11 = .ok (.getfield 17, 3) := by decide +kernel
theorem dX1_add_14 : decode cX1_add 14 = .ok (.aload_n 0, 1) := by decide +kernel
theorem dX1_add_15 : decode cX1_add 15 = .ok (.getfield 7, 3) := by decide +kernel
theorem dX1_add_18 : decode cX1_add 18 = .ok (.iload_n 2, 1) := by decide +kernel
theorem dX1_add_19 : decode cX1_add 19 = .ok (.iastore, 1) := by decide +kernel
theorem dX1_add_20 : decode cX1_add 20 = .ok (.aload_n 0, 1) := by decide +kernel
theorem dX1_add_21 : decode cX1_add 21 = .ok (.dup, 1) := by decide +kernel
theorem dX1_add_22 : decode cX1_add 22 = .ok (.getfield 7, 3) := by decide +kernel
theorem dX1_add_25 : decode cX1_add 25 = .ok (.iconst 1, 1) := by decide +kernel
theorem dX1_add_26 : decode cX1_add 26 = .ok (.iadd, 1) := by decide +kernel
theorem dX1_add_27 : decode cX1_add 27 = .ok (.putfield 7, 3) := by decide +kernel
theorem dX1_add_30 : decode cX1_add 30 = .ok (.aload_n 0, 1) := by decide +kernel
theorem dX1_add_31 : decode cX1_add 31 = .ok (.getfield 7, 3) := by decide +kernel
theorem dX1_add_34 : decode cX1_add 34 = .ok (.iconst 1, 1) := by decide +kernel
theorem dX1_add_35 : decode cX1_add 35 = .ok (.isub, 1) := by decide +kernel
theorem dX1_add_36 : decode cX1_add 36 = .ok (.ireturn, 1) := by decide +kernel
end
section
theorem dX2_init_0 : decode cX2_init 0 = .ok (.aload_n 0, 1) := by decide +kernel
theorem dX2_init_1 : decode cX2_init 1 = .ok (.invokespecial 3, 3) := by decide +kernel
theorem dX2_init_4 : decode cX2_init 4 = .ok (.aload_n 0, 1) := by decide +kernel
theorem dX2_init_5 : decode cX2_init 5 = .ok (.bipush 40, 2) := by decide +kernel
theorem dX2_init_7 : decode cX2_init 7 = .ok (.newarray .int, 2) := by decide +kernel
theorem dX2_init_9 : decode cX2_init 9 = .ok (.putfield 9, 3) := by decide +kernel
theorem dX2_init_12 : decode cX2_init 12 = .ok (.return_, 1) := by decide +kernel
theorem dX2_joins_0 : decode cX2_joins 0 = .ok (.aload_n 0, 1) := by decide +kernel
theorem dX2_joins_1 : decode cX2_joins 1 = .ok (.getfield 9, 3) := by decide +kernel
theorem dX2_joins_4 : decode cX2_joins 4 = .ok (.iload_n 1, 1) := by decide +kernel
theorem dX2_joins_5 : decode cX2_joins 5 = .ok (.iaload, 1) := by decide +kernel
theorem dX2_joins_6 : decode cX2_joins 6 = .ok (.aload_n 0, 1) := by decide +kernel
theorem dX2_joins_7 : decode cX2_joins 7 = .ok (.getfield 9, 3) := by decide +kernel
theorem dX2_joins_10 : decode cX2_joins 10 = .ok (.iload_n 2, 1) := by decide +kernel
theorem dX2_joins_11 : decode cX2_joins 11 = .ok (.iaload, 1) := by decide +kernel
theorem dX2_joins_12 : decode cX2_joins 12 = .ok (.if_icmp .ne 7, 3) := by decide +kernel
theorem dX2_joins_15 : decode cX2_joins 15 = .ok (.iconst 1, 1) := by decide +kernel
theorem dX2_joins_16 : decode cX2_joins 16 = .ok (.goto 4, 3) := by decide +kernel
theorem dX2_joins_19 : decode cX2_joins 19 = .ok (.iconst 0, 1) := by decide +kernel
theorem dX2_joins_20 : decode cX2_joins 20 = .ok (.ireturn, 1) := by decide +kernel
theorem dX2_classCount_0 : decode cX2_classCount 0 = .ok (.iconst 0, 1) := by decide +kernel
theorem dX2_classCount_1 : decode cX2_classCount 1 = .ok (.istore_n 2, 1) := by decide +kernel
theorem dX2_classCount_2 : decode cX2_classCount 2 = .ok (.iconst 0, 1) := by decide +kernel
theorem dX2_classCount_3 : decode cX2_classCount 3 = .ok (.istore_n 3, 1) := by decide +kernel
theorem dX2_classCount_4 : decode cX2_classCount 4 = .ok (.iload_n 3, 1) := by decide +kernel
theorem dX2_classCount_5 : decode cX2_classCount 5 = .ok (.iload_n 1, 1) := by decide +kernel
theorem dX2_classCount_6 : decode cX2_classCount 6 = .ok (.if_icmp .ge 22, 3) := by decide +kernel
theorem dX2_classCount_9 : decode cX2_classCount 9 = .ok (.aload_n 0, 1) := by decide +kernel
theorem dX2_classCount_10 : decode cX2_classCount 10 = .ok (.getfield 9, 3) := by decide +kernel
theorem dX2_classCount_13 : decode cX2_classCount 13 = .ok (.iload_n 3, 1) := by decide +kernel
theorem dX2_classCount_14 : decode cX2_classCount 14 = .ok (.iaload, 1) := by decide +kernel
theorem dX2_classCount_15 : decode cX2_classCount 15 = .ok (.iload_n 3, 1) := by decide +kernel
theorem dX2_classCount_16 : decode cX2_classCount 16 = .ok (.if_icmp .ne 6, 3) := by decide +kernel
theorem dX2_classCount_19 : decode cX2_classCount 19 = .ok (.iinc 2 1, 3) := by decide +kernel
theorem dX2_classCount_22 : decode cX2_classCount 22 = .ok (.iinc 3 1, 3) := by decide +kernel
theorem dX2_classCount_25 : decode cX2_classCount 25 = .ok (.goto (-21), 3) := by decide +kernel
theorem dX2_classCount_28 : decode cX2_classCount 28 = .ok (.iload_n 2, 1) := by decide +kernel
theorem dX2_classCount_29 : decode cX2_classCount 29 = .ok (.ireturn, 1) := by decide +kernel
theorem dX2_fits_0 : decode cX2_fits 0 = .ok (.aload_n 1, 1) := by decide +kernel
theorem dX2_fits_1 : decode cX2_fits 1 = .ok (.getfield 15, 3) := by decide +kernel
theorem dX2_fits_4 : decode cX2_fits 4 = .ok (.iload_n 2, 1) := by decide +kernel
theorem dX2_fits_5 : decode cX2_fits 5 = .ok (.iaload, 1) := by decide +kernel
theorem dX2_fits_6 : decode cX2_fits 6 = .ok (.iload_n 3, 1) := by decide +kernel
theorem dX2_fits_7 : decode cX2_fits 7 = .ok (.if_icmp .ne 37, 3) := by decide +kernel
theorem dX2_fits_10 : decode cX2_fits 10 = .ok (.aload_n 0, 1) := by decide +kernel
theorem dX2_fits_11 : decode cX2_fits 11 = .ok (.aload_n 1, 1) := by decide +kernel
theorem dX2_fits_12 : decode cX2_fits 12 = .ok (.getfield 20, 3) := by decide +kernel
theorem dX2_fits_15 : decode cX2_fits 15 = .ok (.iload_n 2, 1) := by decide +kernel
theorem dX2_fits_16 : decode cX2_fits 16 = .ok (.iaload, 1) := by decide +kernel
theorem dX2_fits_17 : decode cX2_fits 17 = .ok (.iload 4, 2) := by decide +kernel
theorem dX2_fits_19 : decode cX2_fits 19 = .ok (.invokevirtual 23, 3) := by decide +kernel
theorem dX2_fits_22 : decode cX2_fits 22 = .ok (.ifCond .eq 22, 3) := by decide +kernel
theorem dX2_fits_25 : decode cX2_fits 25 = .ok (.aload_n 0, 1) := by decide +kernel
theorem dX2_fits_26 : decode cX2_fits 26 = .ok (.aload_n 1, 1) := by decide +kernel
theorem dX2_fits_27 : decode cX2_fits 27 = .ok (.getfield 27, 3) := by decide +kernel
theorem dX2_fits_30 : decode cX2_fits 30 = .ok (.iload_n 2, 1) := by decide +kernel
theorem dX2_fits_31 : decode cX2_fits 31 = .ok (.iaload, 1) := by decide +kernel
theorem dX2_fits_32 : decode cX2_fits 32 = .ok (.iload 5, 2) := by decide +kernel
theorem dX2_fits_34 : decode cX2_fits 34 = .ok (.invokevirtual 23, 3) := by decide +kernel
theorem dX2_fits_37 : decode cX2_fits 37 = .ok (.ifCond .eq 7, 3) := by decide +kernel
theorem dX2_fits_40 : decode cX2_fits 40 = .ok (.iconst 1, 1) := by decide +kernel
theorem dX2_fits_41 : decode cX2_fits 41 = .ok (.goto 4, 3) := by decide +kernel
theorem dX2_fits_44 : decode cX2_fits 44 = .ok (.iconst 0, 1) := by decide +kernel
theorem dX2_fits_45 : decode cX2_fits 45 = .ok (.ireturn, 1) := by decide +kernel
theorem dX2_sameArgument_0 : decode cX2_sameArgument 0 = .ok (.iload_n 1, 1) := by decide +kernel
theorem dX2_sameArgument_1 : decode cX2_sameArgument 1 = .ok (.iconst (-1), 1) := by decide +kernel
theorem dX2_sameArgument_2 : decode cX2_sameArgument 2 = .ok (.if_icmp .eq 8, 3) := by decide +kernel
theorem dX2_sameArgument_5 : decode cX2_sameArgument 5 = .ok (.iload_n 2, 1) := by decide +kernel
theorem dX2_sameArgument_6 : decode cX2_sameArgument 6 = .ok (.iconst (-1), 1) := by decide +kernel
theorem dX2_sameArgument_7 : decode cX2_sameArgument 7 = .ok (.if_icmp .ne 14, 3) := by decide +kernel
theorem dX2_sameArgument_10 : decode cX2_sameArgument 10 = .ok (.iload_n 1, 1) := by decide +kernel
theorem dX2_sameArgument_11 : decode cX2_sameArgument 11 = .ok (.iload_n 2, 1) := by decide +kernel
theorem dX2_sameArgument_12 : decode cX2_sameArgument 12 = .ok (.if_icmp .ne 7, 3) := by decide +kernel
theorem dX2_sameArgument_15 : decode cX2_sameArgument 15 = .ok (.iconst 1, 1) := by decide +kernel
theorem dX2_sameArgument_16 : decode cX2_sameArgument 16 = .ok (.goto 4, 3) := by decide +kernel
theorem dX2_sameArgument_19 : decode cX2_sameArgument 19 = .ok (.iconst 0, 1) := by decide +kernel
theorem dX2_sameArgument_20 : decode cX2_sameArgument 20 = .ok (.ireturn, 1) := by decide +kernel
theorem dX2_sameArgument_21 : decode cX2_sameArgument 21 = .ok (.aload_n 0, 1) := by decide +kernel
theorem dX2_sameArgument_22 : decode cX2_sameArgument 22 = .ok (.iload_n 1, 1) := by decide +kernel
theorem dX2_sameArgument_23 : decode cX2_sameArgument 23 = .ok (.iload_n 2, 1) := by decide +kernel
theorem dX2_sameArgument_24 : decode cX2_sameArgument 24 = .ok (.invokevirtual 30, 3) := by decide +kernel
theorem dX2_sameArgument_27 : decode cX2_sameArgument 27 = .ok (.ireturn, 1) := by decide +kernel
theorem dX2_settle_0 : decode cX2_settle 0 = .ok (.iconst 0, 1) := by decide +kernel
theorem dX2_settle_1 : decode cX2_settle 1 = .ok (.istore 4, 2) := by decide +kernel
theorem dX2_settle_3 : decode cX2_settle 3 = .ok (.iload 4, 2) := by decide +kernel
theorem dX2_settle_5 : decode cX2_settle 5 = .ok (.aload_n 1, 1) := by decide +kernel
theorem dX2_settle_6 : decode cX2_settle 6 = .ok (.getfield 33, 3) := by decide +kernel
theorem dX2_settle_9 : decode cX2_settle 9 = .ok (.if_icmp .ge 18, 3) := by decide +kernel
theorem dX2_settle_12 : decode cX2_settle 12 = .ok (.aload_n 0, 1) := by decide +kernel
theorem dX2_settle_13 : decode cX2_settle 13 = .ok (.getfield 9, 3) := by decide +kernel
theorem dX2_settle_16 : decode cX2_settle 16 = .ok (.iload 4, 2) := by decide +kernel
theorem dX2_settle_18 : decode cX2_settle 18 = .ok (.iload 4, 2) := by decide +kernel
theorem dX2_settle_20 : decode cX2_settle 20 = .ok (.iastore, 1) := by decide +kernel
theorem dX2_settle_21 : decode cX2_settle 21 = .ok (.iinc 4 1, 3) := by decide +kernel
theorem dX2_settle_24 : decode cX2_settle 24 = .ok (.goto (-21), 3) := by decide +kernel
theorem dX2_settle_27 : decode cX2_settle 27 = .ok (.iconst 0, 1) := by decide +kernel
theorem dX2_settle_28 : decode cX2_settle 28 = .ok (.istore 4, 2) := by decide +kernel
theorem dX2_settle_30 : decode cX2_settle 30 = .ok (.iload 4, 2) := by decide +kernel
theorem dX2_settle_32 : decode cX2_settle 32 = .ok (.aload_n 2, 1) := by decide +kernel
theorem dX2_settle_33 : decode cX2_settle 33 = .ok (.getfield 37, 3) := by decide +kernel
theorem dX2_settle_36 : decode cX2_settle 36 = .ok (.if_icmp .ge 40, 3) := by decide +kernel
theorem dX2_settle_39 : decode cX2_settle 39 = .ok (.iload_n 3, 1) := by decide +kernel
theorem dX2_settle_40 : decode cX2_settle 40 = .ok (.iconst 1, 1) := by decide +kernel
theorem dX2_settle_41 : decode cX2_settle 41 = .ok (.iload 4, 2) := by decide +kernel
theorem dX2_settle_43 : decode cX2_settle 43 = .ok (.ishl, 1) := by decide +kernel
theorem dX2_settle_44 : decode cX2_settle 44 = .ok (.iand, 1) := by decide +kernel
theorem dX2_settle_45 : decode cX2_settle 45 = .ok (.ifCond .eq 25, 3) := by decide +kernel
theorem dX2_settle_48 : decode cX2_settle 48 = .ok (.aload_n 0, 1) := by decide +kernel
theorem dX2_settle_49 : decode cX2_settle 49 = .ok (.aload_n 2, 1) := by decide +kernel
theorem dX2_settle_50 : decode cX2_settle 50 = .ok (.getfield 40, 3) := by decide +kernel
theorem dX2_settle_53 : decode cX2_settle 53 = .ok (.iload 4, 2) := by decide +kernel
theorem dX2_settle_55 : decode cX2_settle 55 = .ok (.iaload, 1) := by decide +kernel
theorem dX2_settle_56 : decode cX2_settle 56 = .ok (.aload_n 2, 1) := by decide +kernel
theorem dX2_settle_57 : decode cX2_settle 57 = .ok (.getfield 43, 3) := by decide +kernel
theorem dX2_settle_60 : decode cX2_settle 60 = .ok (.iload 4, 2) := by decide +kernel
theorem dX2_settle_62 : decode cX2_settle 62 = .ok (.iaload, 1) := by decide +kernel
theorem dX2_settle_63 : decode cX2_settle 63 = .ok (.aload_n 1, 1) := by decide +kernel
theorem dX2_settle_64 : decode cX2_settle 64 = .ok (.getfield 33, 3) := by decide +kernel
theorem dX2_settle_67 : decode cX2_settle 67 = .ok (.invokevirtual 46, 3) := by decide +kernel
theorem dX2_settle_70 : decode cX2_settle 70 = .ok (.iinc 4 1, 3) := by decide +kernel
theorem dX2_settle_73 : decode cX2_settle 73 = .ok (.goto (-43), 3) := by decide +kernel
theorem dX2_settle_76 : decode cX2_settle 76 = .ok (.iconst 1, 1) := by decide +kernel
theorem dX2_settle_77 : decode cX2_settle 77 = .ok (.istore 4, 2) := by decide +kernel
theorem dX2_settle_79 : decode cX2_settle 79 = .ok (.iconst 0, 1) := by decide +kernel
theorem dX2_settle_80 : decode cX2_settle 80 = .ok (.istore 5, 2) := by decide +kernel
theorem dX2_settle_82 : decode cX2_settle 82 = .ok (.iload 5, 2) := by decide +kernel
theorem dX2_settle_84 : decode cX2_settle 84 = .ok (.aload_n 1, 1) := by decide +kernel
theorem dX2_settle_85 : decode cX2_settle 85 = .ok (.getfield 33, 3) := by decide +kernel
theorem dX2_settle_88 : decode cX2_settle 88 = .ok (.if_icmp .ge 21, 3) := by decide +kernel
theorem dX2_settle_91 : decode cX2_settle 91 = .ok (.iload 4, 2) := by decide +kernel
theorem dX2_settle_93 : decode cX2_settle 93 = .ok (.ifCond .eq 16, 3) := by decide +kernel
theorem dX2_settle_96 : decode cX2_settle 96 = .ok (.aload_n 0, 1) := by decide +kernel
theorem dX2_settle_97 : decode cX2_settle 97 = .ok (.aload_n 1, 1) := by decide +kernel
theorem dX2_settle_98 : decode cX2_settle 98 = .ok (.invokevirtual 50, 3) := by decide +kernel
theorem dX2_settle_101 : decode cX2_settle 101 = .ok (.istore 4, 2) := by decide +kernel
theorem dX2_settle_103 : decode cX2_settle 103 = .ok (.iinc 5 1, 3) := by decide +kernel
theorem dX2_settle_106 : decode cX2_settle 106 = .ok (.goto (-24), 3) := by decide +kernel
theorem dX2_settle_109 : decode cX2_settle 109 = .ok (.return_, 1) := by decide +kernel
theorem dX2_mergeCongruent_0 : decode cX2_mergeCongruent 0 = .ok (.iconst 0, 1) := by decide +kernel
theorem dX2_mergeCongruent_1 : decode cX2_mergeCongruent 1 = .ok (.istore_n 2, 1) := by decide +kernel
theorem dX2_mergeCongruent_2 : decode cX2_mergeCongruent 2 = .ok (.iconst 0, 1) := by decide +kernel
theorem dX2_mergeCongruent_3 : decode cX2_mergeCongruent 3 = .ok (.istore_n 3, 1) := by decide +kernel
theorem dX2_mergeCongruent_4 : decode cX2_mergeCongruent 4 = .ok (.iload_n 3, 1) := by decide +kernel
theorem dX2_mergeCongruent_5 : decode cX2_mergeCongruent 5 = .ok (.aload_n 1, 1) := by decide +kernel
theorem dX2_mergeCongruent_6 : decode cX2_mergeCongruent 6 = .ok (.getfield 33, 3) := by decide +kernel
theorem dX2_mergeCongruent_9 : decode cX2_mergeCongruent 9 = .ok (.if_icmp .ge 58, 3) := by decide +kernel
theorem dX2_mergeCongruent_12 : decode cX2_mergeCongruent 12 = .ok (.iconst 0, 1) := by decide +kernel
theorem dX2_mergeCongruent_13 : decode cX2_mergeCongruent 13 = .ok (.istore 4, 2) := by decide +kernel
theorem dX2_mergeCongruent_15 : decode cX2_mergeCongruent 15 = .ok (.iload 4, 2) := by decide +kernel
theorem dX2_mergeCongruent_17 : decode cX2_mergeCongruent 17 = .ok (.iload_n 3, 1) := by decide +kernel
theorem dX2_mergeCongruent_18 : decode cX2_mergeCongruent 18 = .ok (.if_icmp .ge 43, 3) := by decide +kernel
theorem dX2_mergeCongruent_21 : decode cX2_mergeCongruent 21 = .ok (.aload_n 0, 1) := by decide +kernel
theorem dX2_mergeCongruent_22 : decode cX2_mergeCongruent 22 = .ok (.iload 4, 2) := by decide +kernel
theorem dX2_mergeCongruent_24 : decode cX2_mergeCongruent 24 = .ok (.iload_n 3, 1) := by decide +kernel
theorem dX2_mergeCongruent_25 : decode cX2_mergeCongruent 25 = .ok (.invokevirtual 30, 3) := by decide +kernel
theorem dX2_mergeCongruent_28 : decode cX2_mergeCongruent 28 = .ok (.ifCond .ne 27, 3) := by decide +kernel
theorem dX2_mergeCongruent_31 : decode cX2_mergeCongruent 31 = .ok (.aload_n 0, 1) := by decide +kernel
theorem dX2_mergeCongruent_32 : decode cX2_mergeCongruent 32 = .ok (.aload_n 1, 1) := by decide +kernel
theorem dX2_mergeCongruent_33 : decode cX2_mergeCongruent 33 = .ok (.iload 4, 2) := by decide +kernel
theorem dX2_mergeCongruent_35 : decode cX2_mergeCongruent 35 = .ok (.iload_n 3, 1) := by decide +kernel
theorem dX2_mergeCongruent_36 : decode cX2_mergeCongruent 36 = .ok (.invokevirtual 54, 3) := by decide +kernel
theorem dX2_mergeCongruent_39 : decode cX2_mergeCongruent 39 = .ok (.ifCond .eq 16, 3) := by decide +kernel
theorem dX2_mergeCongruent_42 : decode cX2_mergeCongruent 42 = .ok (.aload_n 0, 1) := by decide +kernel
theorem dX2_mergeCongruent_43 : decode cX2_mergeCongruent 43 = .ok (.iload 4, 2) := by decide +kernel
theorem dX2_mergeCongruent_45 : decode cX2_mergeCongruent 45 = .ok (.iload_n 3, 1) := by decide +kernel
theorem dX2_mergeCongruent_46 : decode cX2_mergeCongruent 46 = .ok (.aload_n 1, 1) := by decide +kernel
theorem dX2_mergeCongruent_47 : decode cX2_mergeCongruent 47 = .ok (.getfield 33, 3) := by decide +kernel
theorem dX2_mergeCongruent_50 : decode cX2_mergeCongruent 50 = .ok (.invokevirtual 46, 3) := by decide +kernel
theorem dX2_mergeCongruent_53 : decode cX2_mergeCongruent 53 = .ok (.iconst 1, 1) := by decide +kernel
theorem dX2_mergeCongruent_54 : decode cX2_mergeCongruent 54 = .ok (.istore_n 2, 1) := by decide +kernel
theorem dX2_mergeCongruent_55 : decode cX2_mergeCongruent 55 = .ok (.iinc 4 1, 3) := by decide +kernel
theorem dX2_mergeCongruent_58 : decode cX2_mergeCongruent 58 = .ok (.goto (-43), 3) := by decide +kernel
theorem dX2_mergeCongruent_61 : decode cX2_mergeCongruent 61 = .ok (.iinc 3 1, 3) := by decide +kernel
theorem dX2_mergeCongruent_64 : decode cX2_mergeCongruent 64 = .ok (.goto (-60), 3) := by decide +kernel
theorem dX2_mergeCongruent_67 : decode cX2_mergeCongruent 67 = .ok (.iload_n 2, 1) := by decide +kernel
theorem dX2_mergeCongruent_68 : decode cX2_mergeCongruent 68 = .ok (.ireturn, 1) := by decide +kernel
theorem dX2_congruent_0 : decode cX2_congruent 0 = .ok (.aload_n 0, 1) := by decide +kernel
theorem dX2_congruent_1 : decode cX2_congruent 1 = .ok (.aload_n 1, 1) := by decide +kernel
theorem dX2_congruent_2 : decode cX2_congruent 2 = .ok (.iload_n 2, 1) := by decide +kernel
theorem dX2_congruent_3 : decode cX2_congruent 3 = .ok (.aload_n 1, 1) := by decide +kernel
theorem dX2_congruent_4 : decode cX2_congruent 4 = .ok (.getfield 15, 3) := by decide +kernel
theorem dX2_congruent_7 : decode cX2_congruent 7 = .ok (.iload_n 3, 1) := by decide +kernel
theorem dX2_congruent_8 : decode cX2_congruent 8 = .ok (.iaload, 1) := by decide +kernel
theorem dX2_congruent_9 : decode cX2_congruent 9 = .ok (.aload_n 1, 1) := by decide +kernel
theorem dX2_congruent_10 : decode cX2_congruent 10 = .ok (.getfield 20, 3) := by decide +kernel
theorem dX2_congruent_13 : decode cX2_congruent 13 = .ok (.iload_n 3, 1) := by decide +kernel
theorem dX2_congruent_14 : decode cX2_congruent 14 = .ok (.iaload, 1) := by decide +kernel
theorem dX2_congruent_15 : decode cX2_congruent 15 = .ok (.aload_n 1, 1) := by decide +kernel
theorem dX2_congruent_16 : decode cX2_congruent 16 = .ok (.getfield 27, 3) := by decide +kernel
theorem dX2_congruent_19 : decode cX2_congruent 19 = .ok (.iload_n 3, 1) := by decide +kernel
theorem dX2_congruent_20 : decode cX2_congruent 20 = .ok (.iaload, 1) := by decide +kernel
theorem dX2_congruent_21 : decode cX2_congruent 21 = .ok (.invokevirtual 58, 3) := by decide +kernel
theorem dX2_congruent_24 : decode cX2_congruent 24 = .ok (.ireturn, 1) := by decide +kernel
theorem dX2_merge_0 : decode cX2_merge 0 = .ok (.aload_n 0, 1) := by decide +kernel
theorem dX2_merge_1 : decode cX2_merge 1 = .ok (.getfield 9, 3) := by decide +kernel
theorem dX2_merge_4 : decode cX2_merge 4 = .ok (.iload_n 1, 1) := by decide +kernel
theorem dX2_merge_5 : decode cX2_merge 5 = .ok (.iaload, 1) := by decide +kernel
theorem dX2_merge_6 : decode cX2_merge 6 = .ok (.aload_n 0, 1) := by decide +kernel
theorem dX2_merge_7 : decode cX2_merge 7 = .ok (.getfield 9, 3) := by decide +kernel
theorem dX2_merge_10 : decode cX2_merge 10 = .ok (.iload_n 2, 1) := by decide +kernel
theorem dX2_merge_11 : decode cX2_merge 11 = .ok (.iaload, 1) := by decide +kernel
theorem dX2_merge_12 : decode cX2_merge 12 = .ok (.invokestatic 62, 3) := by decide +kernel
theorem dX2_merge_15 : decode cX2_merge 15 = .ok (.istore 4, 2) := by decide +kernel
theorem dX2_merge_17 : decode cX2_merge 17 = .ok (.aload_n 0, 1) := by decide +kernel
theorem dX2_merge_18 : decode cX2_merge 18 = .ok (.getfield 9, 3) := by decide +kernel
theorem dX2_merge_21 : decode cX2_merge 21 = .ok (.iload_n 1, 1) := by decide +kernel
theorem dX2_merge_22 : decode cX2_merge 22 = .ok (.iaload, 1) := by decide +kernel
theorem dX2_merge_23 : decode cX2_merge 23 = .ok (.aload_n 0, 1) := by decide +kernel
theorem dX2_merge_24 : decode cX2_merge 24 = .ok (.getfield 9, 3) := by decide +kernel
theorem dX2_merge_27 : decode cX2_merge 27 = .ok (.iload_n 2, 1) := by decide +kernel
theorem dX2_merge_28 : decode cX2_merge 28 = .ok (.iaload, 1) := by decide +kernel
theorem dX2_merge_29 : decode cX2_merge 29 = .ok (.invokestatic 68, 3) := by decide +kernel
theorem dX2_merge_32 : decode cX2_merge 32 = .ok (.istore 5, 2) := by decide +kernel
theorem dX2_merge_34 : decode cX2_merge 34 = .ok (.iconst 0, 1) := by decide +kernel
theorem dX2_merge_35 : decode cX2_merge 35 = .ok (.istore 6, 2) := by decide +kernel
theorem dX2_merge_37 : decode cX2_merge 37 = .ok (.iload 6, 2) := by decide +kernel
theorem dX2_merge_39 : decode cX2_merge 39 = .ok (.iload_n 3, 1) := by decide +kernel
theorem dX2_merge_40 : decode cX2_merge 40 = .ok (.if_icmp .ge 30, 3) := by decide +kernel
theorem dX2_merge_43 : decode cX2_merge 43 = .ok (.aload_n 0, 1) := by decide +kernel
theorem dX2_merge_44 : decode cX2_merge 44 = .ok (.getfield 9, 3) := by decide +kernel
theorem dX2_merge_47 : decode cX2_merge 47 = .ok (.iload 6, 2) := by decide +kernel
theorem dX2_merge_49 : decode cX2_merge 49 = .ok (.iaload, 1) := by decide +kernel
theorem dX2_merge_50 : decode cX2_merge 50 = .ok (.iload 5, 2) := by decide +kernel
theorem dX2_merge_52 : decode cX2_merge 52 = .ok (.if_icmp .ne 12, 3) := by decide +kernel
theorem dX2_merge_55 : decode cX2_merge 55 = .ok (.aload_n 0, 1) := by decide +kernel
theorem dX2_merge_56 : decode cX2_merge 56 = .ok (.getfield 9, 3) := by decide +kernel
theorem dX2_merge_59 : decode cX2_merge 59 = .ok (.iload 6, 2) := by decide +kernel
theorem dX2_merge_61 : decode cX2_merge 61 = .ok (.iload 4, 2) := by decide +kernel
theorem dX2_merge_63 : decode cX2_merge 63 = .ok (.iastore, 1) := by decide +kernel
theorem dX2_merge_64 : decode cX2_merge 64 = .ok (.iinc 6 1, 3) := by decide +kernel
theorem dX2_merge_67 : decode cX2_merge 67 = .ok (.goto (-30), 3) := by decide +kernel
theorem dX2_merge_70 : decode cX2_merge 70 = .ok (.return_, 1) := by decide +kernel
end
section
theorem dX3_init_0 : decode cX3_init 0 = .ok (.aload_n 0, 1) := by decide +kernel
theorem dX3_init_1 : decode cX3_init 1 = .ok (.invokespecial 3, 3) := by decide +kernel
theorem dX3_init_4 : decode cX3_init 4 = .ok (.aload_n 0, 1) := by decide +kernel
theorem dX3_init_5 : decode cX3_init 5 = .ok (.bipush 40, 2) := by decide +kernel
theorem dX3_init_7 : decode cX3_init 7 = .ok (.newarray .int, 2) := by decide +kernel
theorem dX3_init_9 : decode cX3_init 9 = .ok (.putfield 9, 3) := by decide +kernel
theorem dX3_init_12 : decode cX3_init 12 = .ok (.aload_n 0, 1) := by decide +kernel
theorem dX3_init_13 : decode cX3_init 13 = .ok (.bipush 40, 2) := by decide +kernel
theorem dX3_init_15 : decode cX3_init 15 = .ok (.newarray .int, 2) := by decide +kernel
theorem dX3_init_17 : decode cX3_init 17 = .ok (.putfield 15, 3) := by decide +kernel
theorem dX3_init_20 : decode cX3_init 20 = .ok (.aload_n 0, 1) := by decide +kernel
theorem dX3_init_21 : decode cX3_init 21 = .ok (.bipush 40, 2) := by decide +kernel
theorem dX3_init_23 : decode cX3_init 23 = .ok (.newarray .int, 2) := by decide +kernel
theorem dX3_init_25 : decode cX3_init 25 = .ok (.putfield 18, 3) := by decide +kernel
theorem dX3_init_28 : decode cX3_init 28 = .ok (.aload_n 0, 1) := by decide +kernel
theorem dX3_init_29 : decode cX3_init 29 = .ok (.iconst 0, 1) := by decide +kernel
theorem dX3_init_30 : decode cX3_init 30 = .ok (.putfield 21, 3) := by decide +kernel
theorem dX3_init_33 : decode cX3_init 33 = .ok (.return_, 1) := by decide +kernel
theorem dX3_numberOf_0 : decode cX3_numberOf 0 = .ok (.iconst 0, 1) := by decide +kernel
theorem dX3_numberOf_1 : decode cX3_numberOf 1 = .ok (.istore 4, 2) := by decide +kernel
theorem dX3_numberOf_3 : decode cX3_numberOf 3 = .ok (.iload 4, 2) := by decide +kernel
theorem dX3_numberOf_5 : decode cX3_numberOf 5 = .ok (.aload_n 0, 1) := by decide +kernel
theorem dX3_numberOf_6 : decode cX3_numberOf 6 = .ok (.getfield 21, 3) := by decide +kernel
theorem dX3_numberOf_9 : decode cX3_numberOf 9 = .ok (.if_icmp .ge 45, 3) := by decide +kernel
theorem dX3_numberOf_12 : decode cX3_numberOf 12 = .ok (.aload_n 0, 1) := by decide +kernel
theorem dX3_numberOf_13 : decode cX3_numberOf 13 = .ok (.getfield 9, 3) := by decide +kernel
theorem dX3_numberOf_16 : decode cX3_numberOf 16 = .ok (.iload 4, 2) := by decide +kernel
theorem dX3_numberOf_18 : decode cX3_numberOf 18 = .ok (.iaload, 1) := by decide +kernel
theorem dX3_numberOf_19 : decode cX3_numberOf 19 = .ok (.iload_n 1, 1) := by decide +kernel
theorem dX3_numberOf_20 : decode cX3_numberOf 20 = .ok (.if_icmp .ne 28, 3) := by decide +kernel
theorem dX3_numberOf_23 : decode cX3_numberOf 23 = .ok (.aload_n 0, 1) := by decide +kernel
theorem dX3_numberOf_24 : decode cX3_numberOf 24 = .ok (.getfield 15, 3) := by decide +kernel
theorem dX3_numberOf_27 : decode cX3_numberOf 27 = .ok (.iload 4, 2) := by decide +kernel
theorem dX3_numberOf_29 : decode cX3_numberOf 29 = .ok (.iaload, 1) := by decide +kernel
theorem dX3_numberOf_30 : decode cX3_numberOf 30 = .ok (.iload_n 2, 1) := by decide +kernel
theorem dX3_numberOf_31 : decode cX3_numberOf 31 = .ok (.if_icmp .ne 17, 3) := by decide +kernel
theorem dX3_numberOf_34 : decode cX3_numberOf 34 = .ok (.aload_n 0, 1) := by decide +kernel
theorem dX3_numberOf_35 : decode cX3_numberOf 35 = .ok (.getfield 18, 3) := by decide +kernel
theorem dX3_numberOf_38 : decode cX3_numberOf 38 = .ok (.iload 4, 2) := by decide +kernel
theorem dX3_numberOf_40 : decode cX3_numberOf 40 = .ok (.iaload, 1) := by decide +kernel
theorem dX3_numberOf_41 : decode cX3_numberOf 41 = .ok (.iload_n 3, 1) := by decide +kernel
theorem dX3_numberOf_42 : decode cX3_numberOf 42 = .ok (.if_icmp .ne 6, 3) := by decide +kernel
theorem dX3_numberOf_45 : decode cX3_numberOf 45 = .ok (.iload 4, 2) := by decide +kernel
theorem dX3_numberOf_47 : decode cX3_numberOf 47 = .ok (.ireturn, 1) := by decide +kernel
theorem dX3_numberOf_48 : decode cX3_numberOf 48 = .ok (.iinc 4 1, 3) := by decide +kernel
theorem dX3_numberOf_51 : decode cX3_numberOf 51 = .ok (.goto (-48), 3) := by decide +kernel
theorem dX3_numberOf_54 : decode cX3_numberOf 54 = .ok (.iconst (-1), 1) := by decide +kernel
theorem dX3_numberOf_55 : decode cX3_numberOf 55 = .ok (.ireturn, 1) := by decide +kernel
theorem dX3_add_0 : decode cX3_add 0 = .ok (.aload_n 0, 1) := by decide +kernel
theorem dX3_add_1 : decode cX3_add 1 = .ok (.getfield 9, 3) := by decide +kernel
theorem dX3_add_4 : decode cX3_add 4 = .ok (.aload_n 0, 1) := by decide +kernel
theorem dX3_add_5 : decode cX3_add 5 = .ok (.getfield 21, 3) := by decide +kernel
theorem dX3_add_8 : decode cX3_add 8 = .ok (.iload_n 1, 1) := by decide +kernel
theorem dX3_add_9 : decode cX3_add 9 = .ok (.iastore, 1) := by decide +kernel
theorem dX3_add_10 : decode cX3_add 10 = .ok (.aload_n 0, 1) := by decide +kernel
theorem dX3_add_11 : decode cX3_add 11 = .ok (.getfield 15, 3) := by decide +kernel
theorem dX3_add_14 : decode cX3_add 14 = .ok (.aload_n 0, 1) := by decide +kernel
theorem dX3_add_15 : decode cX3_add 15 = .ok (.getfield 21, 3) := by decide +kernel
theorem dX3_add_18 : decode cX3_add 18 = .ok (.iload_n 2, 1) := by decide +kernel
theorem dX3_add_19 : decode cX3_add 19 = .ok (.iastore, 1) := by decide +kernel
theorem dX3_add_20 : decode cX3_add 20 = .ok (.aload_n 0, 1) := by decide +kernel
theorem dX3_add_21 : decode cX3_add 21 = .ok (.getfield 18, 3) := by decide +kernel
theorem dX3_add_24 : decode cX3_add 24 = .ok (.aload_n 0, 1) := by decide +kernel
theorem dX3_add_25 : decode cX3_add 25 = .ok (.getfield 21, 3) := by decide +kernel
theorem dX3_add_28 : decode cX3_add 28 = .ok (.iload_n 3, 1) := by decide +kernel
theorem dX3_add_29 : decode cX3_add 29 = .ok (.iastore, 1) := by decide +kernel
theorem dX3_add_30 : decode cX3_add 30 = .ok (.aload_n 0, 1) := by decide +kernel
theorem dX3_add_31 : decode cX3_add 31 = .ok (.dup, 1) := by decide +kernel
theorem dX3_add_32 : decode cX3_add 32 = .ok (.getfield 21, 3) := by decide +kernel
theorem dX3_add_35 : decode cX3_add 35 = .ok (.iconst 1, 1) := by decide +kernel
theorem dX3_add_36 : decode cX3_add 36 = .ok (.iadd, 1) := by decide +kernel
theorem dX3_add_37 : decode cX3_add 37 = .ok (.putfield 21, 3) := by decide +kernel
theorem dX3_add_40 : decode cX3_add 40 = .ok (.aload_n 0, 1) := by decide +kernel
theorem dX3_add_41 : decode cX3_add 41 = .ok (.getfield 21, 3) := by decide +kernel
theorem dX3_add_44 : decode cX3_add 44 = .ok (.iconst 1, 1) := by decide +kernel
theorem dX3_add_45 : decode cX3_add 45 = .ok (.isub, 1) := by decide +kernel
theorem dX3_add_46 : decode cX3_add 46 = .ok (.ireturn, 1) := by decide +kernel
end
section
theorem dX4_init_0 : decode cX4_init 0 = .ok (.aload_n 0, 1) := by decide +kernel
theorem dX4_init_1 : decode cX4_init 1 = .ok (.invokespecial 3, 3) := by decide +kernel
theorem dX4_init_4 : decode cX4_init 4 = .ok (.aload_n 0, 1) := by decide +kernel
theorem dX4_init_5 : decode cX4_init 5 = .ok (.bipush 40, 2) := by decide +kernel
theorem dX4_init_7 : decode cX4_init 7 = .ok (.newarray .long, 2) := by decide +kernel
theorem dX4_init_9 : decode cX4_init 9 = .ok (.putfield 9, 3) := by decide +kernel
theorem dX4_init_12 : decode cX4_init 12 = .ok (.return_, 1) := by decide +kernel
theorem dX4_weigh_0 : decode cX4_weigh 0 = .ok (.aload_n 0, 1) := by decide +kernel
theorem dX4_weigh_1 : decode cX4_weigh 1 = .ok (.getfield 9, 3) := by decide +kernel
theorem dX4_weigh_4 : decode cX4_weigh 4 = .ok (.ldc2_w 15, 3) := by decide +kernel
theorem dX4_weigh_7 : decode cX4_weigh 7 = .ok (.invokestatic 17, 3) := by decide +kernel
theorem dX4_weigh_10 : decode cX4_weigh 10 = .ok (.iconst 1, 1) := by decide +kernel
theorem dX4_weigh_11 : decode cX4_weigh 11 = .ok (.istore_n 3, 1) := by decide +kernel
theorem dX4_weigh_12 : decode cX4_weigh 12 = .ok (.iconst 0, 1) := by decide +kernel
theorem dX4_weigh_13 : decode cX4_weigh 13 = .ok (.istore 4, 2) := by decide +kernel
theorem dX4_weigh_15 : decode cX4_weigh 15 = .ok (.iload 4, 2) := by decide +kernel
theorem dX4_weigh_17 : decode cX4_weigh 17 = .ok (.aload_n 1, 1) := by decide +kernel
theorem dX4_weigh_18 : decode cX4_weigh 18 = .ok (.getfield 23, 3) := by decide +kernel
theorem dX4_weigh_21 : decode cX4_weigh 21 = .ok (.if_icmp .ge 20, 3) := by decide +kernel
theorem dX4_weigh_24 : decode cX4_weigh 24 = .ok (.iload_n 3, 1) := by decide +kernel
theorem dX4_weigh_25 : decode cX4_weigh 25 = .ok (.ifCond .eq 16, 3) := by decide +kernel
theorem dX4_weigh_28 : decode cX4_weigh 28 = .ok (.aload_n 0, 1) := by decide +kernel
theorem dX4_weigh_29 : decode cX4_weigh 29 = .ok (.aload_n 1, 1) := by decide +kernel
theorem dX4_weigh_30 : decode cX4_weigh 30 = .ok (.aload_n 2, 1) := by decide +kernel
theorem dX4_weigh_31 : decode cX4_weigh 31 = .ok (.invokevirtual 29, 3) := by decide +kernel
theorem dX4_weigh_34 : decode cX4_weigh 34 = .ok (.istore_n 3, 1) := by decide +kernel
theorem dX4_weigh_35 : decode cX4_weigh 35 = .ok (.iinc 4 1, 3) := by decide +kernel
theorem dX4_weigh_38 : decode cX4_weigh 38 = .ok (.goto (-23), 3) := by decide +kernel
theorem dX4_weigh_41 : decode cX4_weigh 41 = .ok (.return_, 1) := by decide +kernel
theorem dX4_lower_0 : decode cX4_lower 0 = .ok (.iconst 0, 1) := by decide +kernel
theorem dX4_lower_1 : decode cX4_lower 1 = .ok (.istore_n 3, 1) := by decide +kernel
theorem dX4_lower_2 : decode cX4_lower 2 = .ok (.iconst 0, 1) := by decide +kernel
theorem dX4_lower_3 : decode cX4_lower 3 = .ok (.istore 4, 2) := by decide +kernel
theorem dX4_lower_5 : decode cX4_lower 5 = .ok (.iload 4, 2) := by decide +kernel
theorem dX4_lower_7 : decode cX4_lower 7 = .ok (.aload_n 1, 1) := by decide +kernel
theorem dX4_lower_8 : decode cX4_lower 8 = .ok (.getfield 23, 3) := by decide +kernel
theorem dX4_lower_11 : decode cX4_lower 11 = .ok (.if_icmp .ge 53, 3) := by decide +kernel
theorem dX4_lower_14 : decode cX4_lower 14 = .ok (.aload_n 0, 1) := by decide +kernel
theorem dX4_lower_15 : decode cX4_lower 15 = .ok (.aload_n 1, 1) := by decide +kernel
theorem dX4_lower_16 : decode cX4_lower 16 = .ok (.aload_n 2, 1) := by decide +kernel
theorem dX4_lower_17 : decode cX4_lower 17 = .ok (.iload 4, 2) := by decide +kernel
theorem dX4_lower_19 : decode cX4_lower 19 = .ok (.invokevirtual 33, 3) := by decide +kernel
theorem dX4_lower_22 : decode cX4_lower 22 = .ok (.lstore 5, 2) := by decide +kernel
theorem dX4_lower_24 : decode cX4_lower 24 = .ok (.lload 5, 2) := by decide +kernel
theorem dX4_lower_26 : decode cX4_lower 26 = .ok (.aload_n 0, 1) := by decide +kernel
theorem dX4_lower_27 : decode cX4_lower 27 = .ok (.getfield 9, 3) := by decide +kernel
theorem dX4_lower_30 : decode cX4_lower 30 = .ok (.aload_n 2, 1) := by decide +kernel
theorem dX4_lower_31 : decode cX4_lower 31 = .ok (.getfield 37, 3) := by decide +kernel
theorem dX4_lower_34 : decode cX4_lower 34 = .ok (.iload 4, 2) := by decide +kernel
theorem dX4_lower_36 : decode cX4_lower 36 = .ok (.iaload, 1) := by decide +kernel
theorem dX4_lower_37 : decode cX4_lower 37 = .ok (.laload, 1) := by decide +kernel
theorem dX4_lower_38 : decode cX4_lower 38 = .ok (.lcmp, 1) := by decide +kernel
theorem dX4_lower_39 : decode cX4_lower 39 = .ok (.ifCond .ge 19, 3) := by decide +kernel
theorem dX4_lower_42 : decode cX4_lower 42 = .ok (.aload_n 0, 1) := by decide +kernel
theorem dX4_lower_43 : decode cX4_lower 43 = .ok (.getfield 9, 3) := by decide +kernel
theorem dX4_lower_46 : decode cX4_lower 46 = .ok (.aload_n 2, 1) := by decide +kernel
theorem dX4_lower_47 : decode cX4_lower 47 = .ok (.getfield 37, 3) := by decide +kernel
theorem dX4_lower_50 : decode cX4_lower 50 = .ok (.iload 4, 2) := by decide +kernel
theorem dX4_lower_52 : decode cX4_lower 52 = .ok (.iaload, 1) := by decide +kernel
theorem dX4_lower_53 : decode cX4_lower 53 = .ok (.lload 5, 2) := by decide +kernel
theorem dX4_lower_55 : decode cX4_lower 55 = .ok (.lastore, 1) := by decide +kernel
theorem dX4_lower_56 : decode cX4_lower 56 = .ok (.iconst 1, 1) := by decide +kernel
theorem dX4_lower_57 : decode cX4_lower 57 = .ok (.istore_n 3, 1) := by decide +kernel
theorem dX4_lower_58 : decode cX4_lower 58 = .ok (.iinc 4 1, 3) := by decide +kernel
theorem dX4_lower_61 : decode cX4_lower 61 = .ok (.goto (-56), 3) := by decide +kernel
theorem dX4_lower_64 : decode cX4_lower 64 = .ok (.iload_n 3, 1) := by decide +kernel
theorem dX4_lower_65 : decode cX4_lower 65 = .ok (.ireturn, 1) := by decide +kernel
theorem dX4_costOf_0 : decode cX4_costOf 0 = .ok (.lconst 1, 1) := by decide +kernel
theorem dX4_costOf_1 : decode cX4_costOf 1 = .ok (.aload_n 0, 1) := by decide +kernel
theorem dX4_costOf_2 : decode cX4_costOf 2 = .ok (.aload_n 2, 1) := by decide +kernel
theorem dX4_costOf_3 : decode cX4_costOf 3 = .ok (.aload_n 1, 1) := by decide +kernel
theorem dX4_costOf_4 : decode cX4_costOf 4 = .ok (.getfield 43, 3) := by decide +kernel
theorem dX4_costOf_7 : decode cX4_costOf 7 = .ok (.iload_n 3, 1) := by decide +kernel
theorem dX4_costOf_8 : decode cX4_costOf 8 = .ok (.iaload, 1) := by decide +kernel
theorem dX4_costOf_9 : decode cX4_costOf 9 = .ok (.invokevirtual 46, 3) := by decide +kernel
theorem dX4_costOf_12 : decode cX4_costOf 12 = .ok (.ladd, 1) := by decide +kernel
theorem dX4_costOf_13 : decode cX4_costOf 13 = .ok (.aload_n 0, 1) := by decide +kernel
theorem dX4_costOf_14 : decode cX4_costOf 14 = .ok (.aload_n 2, 1) := by decide +kernel
theorem dX4_costOf_15 : decode cX4_costOf 15 = .ok (.aload_n 1, 1) := by decide +kernel
theorem dX4_costOf_16 : decode cX4_costOf 16 = .ok (.getfield 50, 3) := by decide +kernel
theorem dX4_costOf_19 : decode cX4_costOf 19 = .ok (.iload_n 3, 1) := by decide +kernel
theorem dX4_costOf_20 : decode cX4_costOf 20 = .ok (.iaload, 1) := by decide +kernel
theorem dX4_costOf_21 : decode cX4_costOf 21 = .ok (.invokevirtual 46, 3) := by decide +kernel
theorem dX4_costOf_24 : decode cX4_costOf 24 = .ok (.ladd, 1) := by decide +kernel
theorem dX4_costOf_25 : decode cX4_costOf 25 = .ok (.lreturn, 1) := by decide +kernel
theorem dX4_ofArgument_0 : decode cX4_ofArgument 0 = .ok (.iload_n 2, 1) := by decide +kernel
theorem dX4_ofArgument_1 : decode cX4_ofArgument 1 = .ok (.iconst (-1), 1) := by decide +kernel
theorem dX4_ofArgument_2 : decode cX4_ofArgument 2 = .ok (.if_icmp .ne 7, 3) := by decide +kernel
theorem dX4_ofArgument_5 : decode cX4_ofArgument 5 = .ok (.lconst 0, 1) := by decide +kernel
theorem dX4_ofArgument_6 : decode cX4_ofArgument 6 = .ok (.goto 9, 3) := by decide +kernel
theorem dX4_ofArgument_9 : decode cX4_ofArgument 9 = .ok (.aload_n 0, 1) := by decide +kernel
theorem dX4_ofArgument_10 : decode cX4_ofArgument 10 = .ok (.aload_n 1, 1) := by decide +kernel
theorem dX4_ofArgument_11 : decode cX4_ofArgument 11 = .ok (.iload_n 2, 1) := by decide +kernel
theorem dX4_ofArgument_12 : decode cX4_ofArgument 12 = .ok (.invokevirtual 53, 3) := by decide +kernel
theorem dX4_ofArgument_15 : decode cX4_ofArgument 15 = .ok (.lreturn, 1) := by decide +kernel
theorem dX4_ofTerm_0 : decode cX4_ofTerm 0 = .ok (.aload_n 0, 1) := by decide +kernel
theorem dX4_ofTerm_1 : decode cX4_ofTerm 1 = .ok (.getfield 9, 3) := by decide +kernel
theorem dX4_ofTerm_4 : decode cX4_ofTerm 4 = .ok (.aload_n 1, 1) := by decide +kernel
theorem dX4_ofTerm_5 : decode cX4_ofTerm 5 = .ok (.getfield 37, 3) := by decide +kernel
theorem dX4_ofTerm_8 : decode cX4_ofTerm 8 = .ok (.iload_n 2, 1) := by decide +kernel
theorem dX4_ofTerm_9 : decode cX4_ofTerm 9 = .ok (.iaload, 1) := by decide +kernel
theorem dX4_ofTerm_10 : decode cX4_ofTerm 10 = .ok (.laload, 1) := by decide +kernel
theorem dX4_ofTerm_11 : decode cX4_ofTerm 11 = .ok (.lreturn, 1) := by decide +kernel
theorem dX4_lightest_0 : decode cX4_lightest 0 = .ok (.iconst 0, 1) := by decide +kernel
theorem dX4_lightest_1 : decode cX4_lightest 1 = .ok (.istore 4, 2) := by decide +kernel
theorem dX4_lightest_3 : decode cX4_lightest 3 = .ok (.iload 4, 2) := by decide +kernel
theorem dX4_lightest_5 : decode cX4_lightest 5 = .ok (.aload_n 1, 1) := by decide +kernel
theorem dX4_lightest_6 : decode cX4_lightest 6 = .ok (.getfield 23, 3) := by decide +kernel
theorem dX4_lightest_9 : decode cX4_lightest 9 = .ok (.if_icmp .ge 40, 3) := by decide +kernel
theorem dX4_lightest_12 : decode cX4_lightest 12 = .ok (.aload_n 2, 1) := by decide +kernel
theorem dX4_lightest_13 : decode cX4_lightest 13 = .ok (.iload 4, 2) := by decide +kernel
theorem dX4_lightest_15 : decode cX4_lightest 15 = .ok (.iload_n 3, 1) := by decide +kernel
theorem dX4_lightest_16 : decode cX4_lightest 16 = .ok (.invokevirtual 56, 3) := by decide +kernel
theorem dX4_lightest_19 : decode cX4_lightest 19 = .ok (.ifCond .eq 24, 3) := by decide +kernel
theorem dX4_lightest_22 : decode cX4_lightest 22 = .ok (.aload_n 0, 1) := by decide +kernel
theorem dX4_lightest_23 : decode cX4_lightest 23 = .ok (.aload_n 1, 1) := by decide +kernel
theorem dX4_lightest_24 : decode cX4_lightest 24 = .ok (.aload_n 2, 1) := by decide +kernel
theorem dX4_lightest_25 : decode cX4_lightest 25 = .ok (.iload 4, 2) := by decide +kernel
theorem dX4_lightest_27 : decode cX4_lightest 27 = .ok (.invokevirtual 33, 3) := by decide +kernel
theorem dX4_lightest_30 : decode cX4_lightest 30 = .ok (.aload_n 0, 1) := by decide +kernel
theorem dX4_lightest_31 : decode cX4_lightest 31 = .ok (.aload_n 2, 1) := by decide +kernel
theorem dX4_lightest_32 : decode cX4_lightest 32 = .ok (.iload_n 3, 1) := by decide +kernel
theorem dX4_lightest_33 : decode cX4_lightest 33 = .ok (.invokevirtual 53, 3) := by decide +kernel
theorem dX4_lightest_36 : decode cX4_lightest 36 = .ok (.lcmp, 1) := by decide +kernel
theorem dX4_lightest_37 : decode cX4_lightest 37 = .ok (.ifCond .ne 6, 3) := by decide +kernel
theorem dX4_lightest_40 : decode cX4_lightest 40 = .ok (.iload 4, 2) := by decide +kernel
theorem dX4_lightest_42 : decode cX4_lightest 42 = .ok (.ireturn, 1) := by decide +kernel
theorem dX4_lightest_43 : decode cX4_lightest 43 = .ok (.iinc 4 1, 3) := by decide +kernel
theorem dX4_lightest_46 : decode cX4_lightest 46 = .ok (.goto (-43), 3) := by decide +kernel
theorem dX4_lightest_49 : decode cX4_lightest 49 = .ok (.iload_n 3, 1) := by decide +kernel
theorem dX4_lightest_50 : decode cX4_lightest 50 = .ok (.ireturn, 1) := by decide +kernel
theorem dX4_symbolAt_0 : decode cX4_symbolAt 0 = .ok (.aload_n 0, 1) := by decide +kernel
theorem dX4_symbolAt_1 : decode cX4_symbolAt 1 = .ok (.aload_n 1, 1) := by decide +kernel
theorem dX4_symbolAt_2 : decode cX4_symbolAt 2 = .ok (.aload_n 2, 1) := by decide +kernel
theorem dX4_symbolAt_3 : decode cX4_symbolAt 3 = .ok (.iload_n 3, 1) := by decide +kernel
theorem dX4_symbolAt_4 : decode cX4_symbolAt 4 = .ok (.invokevirtual 60, 3) := by decide +kernel
theorem dX4_symbolAt_7 : decode cX4_symbolAt 7 = .ok (.istore 5, 2) := by decide +kernel
theorem dX4_symbolAt_9 : decode cX4_symbolAt 9 = .ok (.iload 4, 2) := by decide +kernel
theorem dX4_symbolAt_11 : decode cX4_symbolAt 11 = .ok (.i2l, 1) := by decide +kernel
theorem dX4_symbolAt_12 : decode cX4_symbolAt 12 = .ok (.lstore 6, 2) := by decide +kernel
theorem dX4_symbolAt_14 : decode cX4_symbolAt 14 = .ok (.iconst 0, 1) := by decide +kernel
theorem dX4_symbolAt_15 : decode cX4_symbolAt 15 = .ok (.istore 8, 2) := by decide +kernel
theorem dX4_symbolAt_17 : decode cX4_symbolAt 17 = .ok (.iload 8, 2) := by decide +kernel
theorem dX4_symbolAt_19 : decode cX4_symbolAt 19 = .ok (.bipush 40, 2) := by decide +kernel
theorem dX4_symbolAt_21 : decode cX4_symbolAt 21 = .ok (.if_icmp .ge 82, 3) := by decide +kernel
theorem dX4_symbolAt_24 : decode cX4_symbolAt 24 = .ok (.lload 6, 2) := by decide +kernel
theorem dX4_symbolAt_26 : decode cX4_symbolAt 26 = .ok (.lconst 0, 1) := by decide +kernel
theorem dX4_symbolAt_27 : decode cX4_symbolAt 27 = .ok (.lcmp, 1) := by decide +kernel
theorem dX4_symbolAt_28 : decode cX4_symbolAt 28 = .ok (.ifCond .le 75, 3) := by decide +kernel
theorem dX4_symbolAt_31 : decode cX4_symbolAt 31 = .ok (.lload 6, 2) := by decide +kernel
theorem dX4_symbolAt_33 : decode cX4_symbolAt 33 = .ok (.lconst 1, 1) := by decide +kernel
theorem dX4_symbolAt_34 : decode cX4_symbolAt 34 = .ok (.lsub, 1) := by decide +kernel
theorem dX4_symbolAt_35 : decode cX4_symbolAt 35 = .ok (.lstore 6, 2) := by decide +kernel
theorem dX4_symbolAt_37 : decode cX4_symbolAt 37 = .ok (.aload_n 1, 1) := by decide +kernel
theorem dX4_symbolAt_38 : decode cX4_symbolAt 38 = .ok (.getfield 43, 3) := by decide +kernel
theorem dX4_symbolAt_41 : decode cX4_symbolAt 41 = .ok (.iload 5, 2) := by decide +kernel
theorem dX4_symbolAt_43 : decode cX4_symbolAt 43 = .ok (.iaload, 1) := by decide +kernel
theorem dX4_symbolAt_44 : decode cX4_symbolAt 44 = .ok (.istore 9, 2) := by decide +kernel
theorem dX4_symbolAt_46 : decode cX4_symbolAt 46 = .ok (.aload_n 0, 1) := by decide +kernel
theorem dX4_symbolAt_47 : decode cX4_symbolAt 47 = .ok (.aload_n 2, 1) := by decide +kernel
theorem dX4_symbolAt_48 : decode cX4_symbolAt 48 = .ok (.iload 9, 2) := by decide +kernel
theorem dX4_symbolAt_50 : decode cX4_symbolAt 50 = .ok (.invokevirtual 46, 3) := by decide +kernel
theorem dX4_symbolAt_53 : decode cX4_symbolAt 53 = .ok (.lstore 10, 2) := by decide +kernel
theorem dX4_symbolAt_55 : decode cX4_symbolAt 55 = .ok (.lload 6, 2) := by decide +kernel
theorem dX4_symbolAt_57 : decode cX4_symbolAt 57 = .ok (.lload 10, 2) := by decide +kernel
theorem dX4_symbolAt_59 : decode cX4_symbolAt 59 = .ok (.lcmp, 1) := by decide +kernel
theorem dX4_symbolAt_60 : decode cX4_symbolAt 60 = .ok (.ifCond .lt 19, 3) := by decide +kernel
theorem dX4_symbolAt_63 : decode cX4_symbolAt 63 = .ok (.lload 6, 2) := by decide +kernel
theorem dX4_symbolAt_65 : decode cX4_symbolAt 65 = .ok (.lload 10, 2) := by decide +kernel
theorem dX4_symbolAt_67 : decode cX4_symbolAt 67 = .ok (.lsub, 1) := by decide +kernel
theorem dX4_symbolAt_68 : decode cX4_symbolAt 68 = .ok (.lstore 6, 2) := by decide +kernel
theorem dX4_symbolAt_70 : decode cX4_symbolAt 70 = .ok (.aload_n 1, 1) := by decide +kernel
theorem dX4_symbolAt_71 : decode cX4_symbolAt 71 = .ok (.getfield 50, 3) := by decide +kernel
theorem dX4_symbolAt_74 : decode cX4_symbolAt 74 = .ok (.iload 5, 2) := by decide +kernel
theorem dX4_symbolAt_76 : decode cX4_symbolAt 76 = .ok (.iaload, 1) := by decide +kernel
theorem dX4_symbolAt_77 : decode cX4_symbolAt 77 = .ok (.istore 9, 2) := by decide +kernel
theorem dX4_symbolAt_79 : decode cX4_symbolAt 79 = .ok (.iload 9, 2) := by decide +kernel
theorem dX4_symbolAt_81 : decode cX4_symbolAt 81 = .ok (.iconst (-1), 1) := by decide +kernel
theorem dX4_symbolAt_82 : decode cX4_symbolAt 82 = .ok (.if_icmp .ne 5, 3) := by decide +kernel
theorem dX4_symbolAt_85 : decode cX4_symbolAt 85 = .ok (.iconst (-1), 1) := by decide +kernel
theorem dX4_symbolAt_86 : decode cX4_symbolAt 86 = .ok (.ireturn, 1) := by decide +kernel
theorem dX4_symbolAt_87 : decode cX4_symbolAt 87 = .ok (.aload_n 0, 1) := by decide +kernel
theorem dX4_symbolAt_88 : decode cX4_symbolAt 88 = .ok (.aload_n 1, 1) := by decide +kernel
theorem dX4_symbolAt_89 : decode cX4_symbolAt 89 = .ok (.aload_n 2, 1) := by decide +kernel
theorem dX4_symbolAt_90 : decode cX4_symbolAt 90 = .ok (.iload 9, 2) := by decide +kernel
theorem dX4_symbolAt_92 : decode cX4_symbolAt 92 = .ok (.invokevirtual 60, 3) := by decide +kernel
theorem dX4_symbolAt_95 : decode cX4_symbolAt 95 = .ok (.istore 5, 2) := by decide +kernel
theorem dX4_symbolAt_97 : decode cX4_symbolAt 97 = .ok (.iinc 8 1, 3) := by decide +kernel
theorem dX4_symbolAt_100 : decode cX4_symbolAt 100 = .ok (.goto (-83), 3) := by decide +kernel
theorem dX4_symbolAt_103 : decode cX4_symbolAt 103 = .ok (.aload_n 1, 1) := by decide +kernel
theorem dX4_symbolAt_104 : decode cX4_symbolAt 104 = .ok (.getfield 64, 3) := by decide +kernel
theorem dX4_symbolAt_107 : decode cX4_symbolAt 107 = .ok (.iload 5, 2) := by decide +kernel
theorem dX4_symbolAt_109 : decode cX4_symbolAt 109 = .ok (.iaload, 1) := by decide +kernel
theorem dX4_symbolAt_110 : decode cX4_symbolAt 110 = .ok (.ireturn, 1) := by decide +kernel
end
section
theorem dX5_init_0 : decode cX5_init 0 = .ok (.aload_n 0, 1) := by decide +kernel
theorem dX5_init_1 : decode cX5_init 1 = .ok (.invokespecial 1, 3) := by decide +kernel
theorem dX5_init_4 : decode cX5_init 4 = .ok (.aload_n 0, 1) := by decide +kernel
theorem dX5_init_5 : decode cX5_init 5 = .ok (.new 7, 3) := by decide +kernel
theorem dX5_init_8 : decode cX5_init 8 = .ok (.dup, 1) := by decide +kernel
theorem dX5_init_9 : decode cX5_init 9 = .ok (.invokespecial 9, 3) := by decide +kernel
theorem dX5_init_12 : decode cX5_init 12 = .ok (.putfield 10, 3) := by decide +kernel
theorem dX5_init_15 : decode cX5_init 15 = .ok (.aload_n 0, 1) := by decide +kernel
theorem dX5_init_16 : decode cX5_init 16 = .ok (.new 16, 3) := by decide +kernel
theorem dX5_init_19 : decode cX5_init 19 = .ok (.dup, 1) := by decide +kernel
theorem dX5_init_20 : decode cX5_init 20 = .ok (.bipush 24, 2) := by decide +kernel
theorem dX5_init_22 : decode cX5_init 22 = .ok (.invokespecial 18, 3) := by decide +kernel
theorem dX5_init_25 : decode cX5_init 25 = .ok (.putfield 21, 3) := by decide +kernel
theorem dX5_init_28 : decode cX5_init 28 = .ok (.aload_n 0, 1) := by decide +kernel
theorem dX5_init_29 : decode cX5_init 29 = .ok (.new 16, 3) := by decide +kernel
theorem dX5_init_32 : decode cX5_init 32 = .ok (.dup, 1) := by decide +kernel
theorem dX5_init_33 : decode cX5_init 33 = .ok (.bipush 16, 2) := by decide +kernel
theorem dX5_init_35 : decode cX5_init 35 = .ok (.invokespecial 18, 3) := by decide +kernel
theorem dX5_init_38 : decode cX5_init 38 = .ok (.putfield 25, 3) := by decide +kernel
theorem dX5_init_41 : decode cX5_init 41 = .ok (.aload_n 0, 1) := by decide +kernel
theorem dX5_init_42 : decode cX5_init 42 = .ok (.new 28, 3) := by decide +kernel
theorem dX5_init_45 : decode cX5_init 45 = .ok (.dup, 1) := by decide +kernel
theorem dX5_init_46 : decode cX5_init 46 = .ok (.invokespecial 30, 3) := by decide +kernel
theorem dX5_init_49 : decode cX5_init 49 = .ok (.putfield 31, 3) := by decide +kernel
theorem dX5_init_52 : decode cX5_init 52 = .ok (.aload_n 0, 1) := by decide +kernel
theorem dX5_init_53 : decode cX5_init 53 = .ok (.new 35, 3) := by decide +kernel
theorem dX5_init_56 : decode cX5_init 56 = .ok (.dup, 1) := by decide +kernel
theorem dX5_init_57 : decode cX5_init 57 = .ok (.invokespecial 37, 3) := by decide +kernel
theorem dX5_init_60 : decode cX5_init 60 = .ok (.putfield 38, 3) := by decide +kernel
theorem dX5_init_63 : decode cX5_init 63 = .ok (.aload_n 0, 1) := by decide +kernel
theorem dX5_init_64 : decode cX5_init 64 = .ok (.new 35, 3) := by decide +kernel
theorem dX5_init_67 : decode cX5_init 67 = .ok (.dup, 1) := by decide +kernel
theorem dX5_init_68 : decode cX5_init 68 = .ok (.invokespecial 37, 3) := by decide +kernel
theorem dX5_init_71 : decode cX5_init 71 = .ok (.putfield 42, 3) := by decide +kernel
theorem dX5_init_74 : decode cX5_init 74 = .ok (.aload_n 0, 1) := by decide +kernel
theorem dX5_init_75 : decode cX5_init 75 = .ok (.new 45, 3) := by decide +kernel
theorem dX5_init_78 : decode cX5_init 78 = .ok (.dup, 1) := by decide +kernel
theorem dX5_init_79 : decode cX5_init 79 = .ok (.invokespecial 47, 3) := by decide +kernel
theorem dX5_init_82 : decode cX5_init 82 = .ok (.putfield 48, 3) := by decide +kernel
theorem dX5_init_85 : decode cX5_init 85 = .ok (.return_, 1) := by decide +kernel
theorem dX5_make_0 : decode cX5_make 0 = .ok (.aload_n 0, 1) := by decide +kernel
theorem dX5_make_1 : decode cX5_make 1 = .ok (.iload_n 1, 1) := by decide +kernel
theorem dX5_make_2 : decode cX5_make 2 = .ok (.iload_n 2, 1) := by decide +kernel
theorem dX5_make_3 : decode cX5_make 3 = .ok (.iload_n 3, 1) := by decide +kernel
theorem dX5_make_4 : decode cX5_make 4 = .ok (.invokevirtual 52, 3) := by decide +kernel
theorem dX5_make_7 : decode cX5_make 7 = .ok (.ifCond .ne 6, 3) := by decide +kernel
theorem dX5_make_10 : decode cX5_make 10 = .ok (.bipush (-2), 2) := by decide +kernel
theorem dX5_make_12 : decode cX5_make 12 = .ok (.ireturn, 1) := by decide +kernel
theorem dX5_make_13 : decode cX5_make 13 = .ok (.aload_n 0, 1) := by decide +kernel
theorem dX5_make_14 : decode cX5_make 14 = .ok (.getfield 10, 3) := by decide +kernel
theorem dX5_make_17 : decode cX5_make 17 = .ok (.iload_n 1, 1) := by decide +kernel
theorem dX5_make_18 : decode cX5_make 18 = .ok (.iload_n 2, 1) := by decide +kernel
theorem dX5_make_19 : decode cX5_make 19 = .ok (.iload_n 3, 1) := by decide +kernel
theorem dX5_make_20 : decode cX5_make 20 = .ok (.invokevirtual 56, 3) := by decide +kernel
theorem dX5_make_23 : decode cX5_make 23 = .ok (.istore 4, 2) := by decide +kernel
theorem dX5_make_25 : decode cX5_make 25 = .ok (.iload 4, 2) := by decide +kernel
theorem dX5_make_27 : decode cX5_make 27 = .ok (.iconst (-1), 1) := by decide +kernel
theorem dX5_make_28 : decode cX5_make 28 = .ok (.if_icmp .eq 6, 3) := by decide +kernel
theorem dX5_make_31 : decode cX5_make 31 = .ok (.iload 4, 2) := by decide +kernel
theorem dX5_make_33 : decode cX5_make 33 = .ok (.ireturn, 1) := by decide +kernel
theorem dX5_make_34 : decode cX5_make 34 = .ok (.aload_n 0, 1) := by decide +kernel
theorem dX5_make_35 : decode cX5_make 35 = .ok (.getfield 10, 3) := by decide +kernel
theorem dX5_make_38 : decode cX5_make 38 = .ok (.getfield 60, 3) := by decide +kernel
theorem dX5_make_41 : decode cX5_make 41 = .ok (.bipush 40, 2) := by decide +kernel
theorem dX5_make_43 : decode cX5_make 43 = .ok (.if_icmp .lt 6, 3) := by decide +kernel
theorem dX5_make_46 : decode cX5_make 46 = .ok (.bipush (-3), 2) := by decide +kernel
theorem dX5_make_48 : decode cX5_make 48 = .ok (.ireturn, 1) := by decide +kernel
theorem dX5_make_49 : decode cX5_make 49 = .ok (.aload_n 0, 1) := by decide +kernel
theorem dX5_make_50 : decode cX5_make 50 = .ok (.getfield 10, 3) := by decide +kernel
theorem dX5_make_53 : decode cX5_make 53 = .ok (.iload_n 1, 1) := by decide +kernel
theorem dX5_make_54 : decode cX5_make 54 = .ok (.iload_n 2, 1) := by decide +kernel
theorem dX5_make_55 : decode cX5_make 55 = .ok (.iload_n 3, 1) := by decide +kernel
theorem dX5_make_56 : decode cX5_make 56 = .ok (.invokevirtual 64, 3) := by decide +kernel
theorem dX5_make_59 : decode cX5_make 59 = .ok (.istore 5, 2) := by decide +kernel
theorem dX5_make_61 : decode cX5_make 61 = .ok (.aload_n 0, 1) := by decide +kernel
theorem dX5_make_62 : decode cX5_make 62 = .ok (.invokevirtual 67, 3) := by decide +kernel
theorem dX5_make_65 : decode cX5_make 65 = .ok (.iload 5, 2) := by decide +kernel
theorem dX5_make_67 : decode cX5_make 67 = .ok (.ireturn, 1) := by decide +kernel
theorem dX5_equate_0 : decode cX5_equate 0 = .ok (.aload_n 0, 1) := by decide +kernel
theorem dX5_equate_1 : decode cX5_equate 1 = .ok (.iload_n 1, 1) := by decide +kernel
theorem dX5_equate_2 : decode cX5_equate 2 = .ok (.iload_n 2, 1) := by decide +kernel
theorem dX5_equate_3 : decode cX5_equate 3 = .ok (.invokevirtual 70, 3) := by decide +kernel
theorem dX5_equate_6 : decode cX5_equate 6 = .ok (.ifCond .ne 6, 3) := by decide +kernel
theorem dX5_equate_9 : decode cX5_equate 9 = .ok (.bipush (-2), 2) := by decide +kernel
theorem dX5_equate_11 : decode cX5_equate 11 = .ok (.ireturn, 1) := by decide +kernel
theorem dX5_equate_12 : decode cX5_equate 12 = .ok (.aload_n 0, 1) := by decide +kernel
theorem dX5_equate_13 : decode cX5_equate 13 = .ok (.getfield 21, 3) := by decide +kernel
theorem dX5_equate_16 : decode cX5_equate 16 = .ok (.invokevirtual 74, 3) := by decide +kernel
theorem dX5_equate_19 : decode cX5_equate 19 = .ok (.ifCond .eq 6, 3) := by decide +kernel
theorem dX5_equate_22 : decode cX5_equate 22 = .ok (.bipush (-3), 2) := by decide +kernel
theorem dX5_equate_24 : decode cX5_equate 24 = .ok (.ireturn, 1) := by decide +kernel
theorem dX5_equate_25 : decode cX5_equate 25 = .ok (.aload_n 0, 1) := by decide +kernel
theorem dX5_equate_26 : decode cX5_equate 26 = .ok (.getfield 38, 3) := by decide +kernel
theorem dX5_equate_29 : decode cX5_equate 29 = .ok (.aload_n 0, 1) := by decide +kernel
theorem dX5_equate_30 : decode cX5_equate 30 = .ok (.getfield 10, 3) := by decide +kernel
theorem dX5_equate_33 : decode cX5_equate 33 = .ok (.getfield 60, 3) := by decide +kernel
theorem dX5_equate_36 : decode cX5_equate 36 = .ok (.invokevirtual 78, 3) := by decide +kernel
theorem dX5_equate_39 : decode cX5_equate 39 = .ok (.istore_n 3, 1) := by decide +kernel
theorem dX5_equate_40 : decode cX5_equate 40 = .ok (.aload_n 0, 1) := by decide +kernel
theorem dX5_equate_41 : decode cX5_equate 41 = .ok (.getfield 21, 3) := by decide +kernel
theorem dX5_equate_44 : decode cX5_equate 44 = .ok (.iload_n 1, 1) := by decide +kernel
theorem dX5_equate_45 : decode cX5_equate 45 = .ok (.iload_n 2, 1) := by decide +kernel
theorem dX5_equate_46 : decode cX5_equate 46 = .ok (.invokevirtual 82, 3) := by decide +kernel
theorem dX5_equate_49 : decode cX5_equate 49 = .ok (.pop, 1) := by decide +kernel
theorem dX5_equate_50 : decode cX5_equate 50 = .ok (.aload_n 0, 1) := by decide +kernel
theorem dX5_equate_51 : decode cX5_equate 51 = .ok (.invokevirtual 67, 3) := by decide +kernel
theorem dX5_equate_54 : decode cX5_equate 54 = .ok (.iload_n 3, 1) := by decide +kernel
theorem dX5_equate_55 : decode cX5_equate 55 = .ok (.aload_n 0, 1) := by decide +kernel
theorem dX5_equate_56 : decode cX5_equate 56 = .ok (.getfield 38, 3) := by decide +kernel
theorem dX5_equate_59 : decode cX5_equate 59 = .ok (.aload_n 0, 1) := by decide +kernel
theorem dX5_equate_60 : decode cX5_equate 60 = .ok (.getfield 10, 3) := by decide +kernel
theorem dX5_equate_63 : decode cX5_equate 63 = .ok (.getfield 60, 3) := by decide +kernel
theorem dX5_equate_66 : decode cX5_equate 66 = .ok (.invokevirtual 78, 3) := by decide +kernel
theorem dX5_equate_69 : decode cX5_equate 69 = .ok (.isub, 1) := by decide +kernel
theorem dX5_equate_70 : decode cX5_equate 70 = .ok (.ireturn, 1) := by decide +kernel
theorem dX5_differ_0 : decode cX5_differ 0 = .ok (.aload_n 0, 1) := by decide +kernel
theorem dX5_differ_1 : decode cX5_differ 1 = .ok (.iload_n 1, 1) := by decide +kernel
theorem dX5_differ_2 : decode cX5_differ 2 = .ok (.iload_n 2, 1) := by decide +kernel
theorem dX5_differ_3 : decode cX5_differ 3 = .ok (.invokevirtual 70, 3) := by decide +kernel
theorem dX5_differ_6 : decode cX5_differ 6 = .ok (.ifCond .ne 6, 3) := by decide +kernel
theorem dX5_differ_9 : decode cX5_differ 9 = .ok (.bipush (-2), 2) := by decide +kernel
theorem dX5_differ_11 : decode cX5_differ 11 = .ok (.ireturn, 1) := by decide +kernel
theorem dX5_differ_12 : decode cX5_differ 12 = .ok (.aload_n 0, 1) := by decide +kernel
theorem dX5_differ_13 : decode cX5_differ 13 = .ok (.getfield 25, 3) := by decide +kernel
theorem dX5_differ_16 : decode cX5_differ 16 = .ok (.invokevirtual 74, 3) := by decide +kernel
theorem dX5_differ_19 : decode cX5_differ 19 = .ok (.ifCond .eq 6, 3) := by decide +kernel
theorem dX5_differ_22 : decode cX5_differ 22 = .ok (.bipush (-3), 2) := by decide +kernel
theorem dX5_differ_24 : decode cX5_differ 24 = .ok (.ireturn, 1) := by decide +kernel
theorem dX5_differ_25 : decode cX5_differ 25 = .ok (.aload_n 0, 1) := by decide +kernel
theorem dX5_differ_26 : decode cX5_differ 26 = .ok (.getfield 25, 3) := by decide +kernel
theorem dX5_differ_29 : decode cX5_differ 29 = .ok (.iload_n 1, 1) := by decide +kernel
theorem dX5_differ_30 : decode cX5_differ 30 = .ok (.iload_n 2, 1) := by decide +kernel
theorem dX5_differ_31 : decode cX5_differ 31 = .ok (.invokevirtual 82, 3) := by decide +kernel
theorem dX5_differ_34 : decode cX5_differ 34 = .ok (.ireturn, 1) := by decide +kernel
theorem dX5_open_0 : decode cX5_open 0 = .ok (.aload_n 0, 1) := by decide +kernel
theorem dX5_open_1 : decode cX5_open 1 = .ok (.getfield 31, 3) := by decide +kernel
theorem dX5_open_4 : decode cX5_open 4 = .ok (.getfield 85, 3) := by decide +kernel
theorem dX5_open_7 : decode cX5_open 7 = .ok (.bipush 6, 2) := by decide +kernel
theorem dX5_open_9 : decode cX5_open 9 = .ok (.if_icmp .lt 6, 3) := by decide +kernel
theorem dX5_open_12 : decode cX5_open 12 = .ok (.bipush (-3), 2) := by decide +kernel
theorem dX5_open_14 : decode cX5_open 14 = .ok (.ireturn, 1) := by decide +kernel
theorem dX5_open_15 : decode cX5_open 15 = .ok (.aload_n 0, 1) := by decide +kernel
theorem dX5_open_16 : decode cX5_open 16 = .ok (.getfield 31, 3) := by decide +kernel
theorem dX5_open_19 : decode cX5_open 19 = .ok (.aload_n 0, 1) := by decide +kernel
theorem dX5_open_20 : decode cX5_open 20 = .ok (.getfield 10, 3) := by decide +kernel
theorem dX5_open_23 : decode cX5_open 23 = .ok (.getfield 60, 3) := by decide +kernel
theorem dX5_open_26 : decode cX5_open 26 = .ok (.aload_n 0, 1) := by decide +kernel
theorem dX5_open_27 : decode cX5_open 27 = .ok (.getfield 21, 3) := by decide +kernel
theorem dX5_open_30 : decode cX5_open 30 = .ok (.getfield 88, 3) := by decide +kernel
theorem dX5_open_33 : decode cX5_open 33 = .ok (.aload_n 0, 1) := by decide +kernel
theorem dX5_open_34 : decode cX5_open 34 = .ok (.getfield 25, 3) := by decide +kernel
theorem dX5_open_37 : decode cX5_open 37 = .ok (.getfield 88, 3) := by decide +kernel
theorem dX5_open_40 : decode cX5_open 40 = .ok (.invokevirtual 89, 3) := by decide +kernel
theorem dX5_open_43 : decode cX5_open 43 = .ok (.aload_n 0, 1) := by decide +kernel
theorem dX5_open_44 : decode cX5_open 44 = .ok (.getfield 31, 3) := by decide +kernel
theorem dX5_open_47 : decode cX5_open 47 = .ok (.getfield 85, 3) := by decide +kernel
theorem dX5_open_50 : decode cX5_open 50 = .ok (.ireturn, 1) := by decide +kernel
theorem dX5_close_0 : decode cX5_close 0 = .ok (.aload_n 0, 1) := by decide +kernel
theorem dX5_close_1 : decode cX5_close 1 = .ok (.getfield 31, 3) := by decide +kernel
theorem dX5_close_4 : decode cX5_close 4 = .ok (.getfield 85, 3) := by decide +kernel
theorem dX5_close_7 : decode cX5_close 7 = .ok (.ifCond .gt 5, 3) := by decide +kernel
theorem dX5_close_10 : decode cX5_close 10 = .ok (.iconst (-1), 1) := by decide +kernel
theorem dX5_close_11 : decode cX5_close 11 = .ok (.ireturn, 1) := by decide +kernel
theorem dX5_close_12 : decode cX5_close 12 = .ok (.aload_n 0, 1) := by decide +kernel
theorem dX5_close_13 : decode cX5_close 13 = .ok (.getfield 31, 3) := by decide +kernel
theorem dX5_close_16 : decode cX5_close 16 = .ok (.dup, 1) := by decide +kernel
theorem dX5_close_17 : decode cX5_close 17 = .ok (.getfield 85, 3) := by decide +kernel
theorem dX5_close_20 : decode cX5_close 20 = .ok (.iconst 1, 1) := by decide +kernel
theorem dX5_close_21 : decode cX5_close 21 = .ok (.isub, 1) := by decide +kernel
theorem dX5_close_22 : decode cX5_close 22 = .ok (.putfield 85, 3) := by decide +kernel
theorem dX5_close_25 : decode cX5_close 25 = .ok (.aload_n 0, 1) := by decide +kernel
theorem dX5_close_26 : decode cX5_close 26 = .ok (.getfield 10, 3) := by decide +kernel
theorem dX5_close_29 : decode cX5_close 29 = .ok (.aload_n 0, 1) := by decide +kernel
theorem dX5_close_30 : decode cX5_close 30 = .ok (.getfield 31, 3) := by decide +kernel
theorem dX5_close_33 : decode cX5_close 33 = .ok (.getfield 93, 3) := by decide +kernel
theorem dX5_close_36 : decode cX5_close 36 = .ok (.aload_n 0, 1) := by decide +kernel
theorem dX5_close_37 : decode cX5_close 37 = .ok (.getfield 31, 3) := by decide +kernel
theorem dX5_close_40 : decode cX5_close 40 = .ok (.getfield 85, 3) := by decide +kernel
theorem dX5_close_43 : decode cX5_close 43 = .ok (.iaload, 1) := by decide +kernel
theorem dX5_close_44 : decode cX5_close 44 = .ok (.putfield 60, 3) := by decide +kernel
theorem dX5_close_47 : decode cX5_close 47 = .ok (.aload_n 0, 1) := by decide +kernel
theorem dX5_close_48 : decode cX5_close 48 = .ok (.getfield 21, 3) := by decide +kernel
theorem dX5_close_51 : decode cX5_close 51 = .ok (.aload_n 0, 1) := by decide +kernel
theorem dX5_close_52 : decode cX5_close 52 = .ok (.getfield 31, 3) := by decide +kernel
theorem dX5_close_55 : decode cX5_close 55 = .ok (.getfield 97, 3) := by decide +kernel
theorem dX5_close_58 : decode cX5_close 58 = .ok (.aload_n 0, 1) := by decide +kernel
theorem dX5_close_59 : decode cX5_close 59 = .ok (.getfield 31, 3) := by decide +kernel
theorem dX5_close_62 : decode cX5_close 62 = .ok (.getfield 85, 3) := by decide +kernel
theorem dX5_close_65 : decode cX5_close 65 = .ok (.iaload, 1) := by decide +kernel
theorem dX5_close_66 : decode cX5_close 66 = .ok (.putfield 88, 3) := by decide +kernel
theorem dX5_close_69 : decode cX5_close 69 = .ok (.aload_n 0, 1) := by decide +kernel
theorem dX5_close_70 : decode cX5_close 70 = .ok (.getfield 25, 3) := by decide +kernel
theorem dX5_close_73 : decode cX5_close 73 = .ok (.aload_n 0, 1) := by decide +kernel
theorem dX5_close_74 : decode cX5_close 74 = .ok (.getfield 31, 3) := by decide +kernel
theorem dX5_close_77 : decode cX5_close 77 = .ok (.getfield 100, 3) := by decide +kernel
theorem dX5_close_80 : decode cX5_close 80 = .ok (.aload_n 0, 1) := by decide +kernel
theorem dX5_close_81 : decode cX5_close 81 = .ok (.getfield 31, 3) := by decide +kernel
theorem dX5_close_84 : decode cX5_close 84 = .ok (.getfield 85, 3) := by decide +kernel
theorem dX5_close_87 : decode cX5_close 87 = .ok (.iaload, 1) := by decide +kernel
theorem dX5_close_88 : decode cX5_close 88 = .ok (.putfield 88, 3) := by decide +kernel
theorem dX5_close_91 : decode cX5_close 91 = .ok (.aload_n 0, 1) := by decide +kernel
theorem dX5_close_92 : decode cX5_close 92 = .ok (.invokevirtual 67, 3) := by decide +kernel
theorem dX5_close_95 : decode cX5_close 95 = .ok (.aload_n 0, 1) := by decide +kernel
theorem dX5_close_96 : decode cX5_close 96 = .ok (.getfield 31, 3) := by decide +kernel
theorem dX5_close_99 : decode cX5_close 99 = .ok (.getfield 85, 3) := by decide +kernel
theorem dX5_close_102 : decode cX5_close 102 = .ok (.ireturn, 1) := by decide +kernel
theorem dX5_equal_0 : decode cX5_equal 0 = .ok (.aload_n 0, 1) := by decide +kernel
theorem dX5_equal_1 : decode cX5_equal 1 = .ok (.iload_n 1, 1) := by decide +kernel
theorem dX5_equal_2 : decode cX5_equal 2 = .ok (.iload_n 2, 1) := by decide +kernel
theorem dX5_equal_3 : decode cX5_equal 3 = .ok (.invokevirtual 70, 3) := by decide +kernel
theorem dX5_equal_6 : decode cX5_equal 6 = .ok (.ifCond .ne 6, 3) := by decide +kernel
theorem dX5_equal_9 : decode cX5_equal 9 = .ok (.bipush (-2), 2) := by decide +kernel
theorem dX5_equal_11 : decode cX5_equal 11 = .ok (.ireturn, 1) := by decide +kernel
theorem dX5_equal_12 : decode cX5_equal 12 = .ok (.aload_n 0, 1) := by decide +kernel
theorem dX5_equal_13 : decode cX5_equal 13 = .ok (.getfield 38, 3) := by decide +kernel
theorem dX5_equal_16 : decode cX5_equal 16 = .ok (.iload_n 1, 1) := by decide +kernel
theorem dX5_equal_17 : decode cX5_equal 17 = .ok (.iload_n 2, 1) := by decide +kernel
theorem dX5_equal_18 : decode cX5_equal 18 = .ok (.invokevirtual 103, 3) := by decide +kernel
theorem dX5_equal_21 : decode cX5_equal 21 = .ok (.ifCond .eq 7, 3) := by decide +kernel
theorem dX5_equal_24 : decode cX5_equal 24 = .ok (.iconst 1, 1) := by decide +kernel
theorem dX5_equal_25 : decode cX5_equal 25 = .ok (.goto 4, 3) := by decide +kernel
theorem dX5_equal_28 : decode cX5_equal 28 = .ok (.iconst 0, 1) := by decide +kernel
theorem dX5_equal_29 : decode cX5_equal 29 = .ok (.ireturn, 1) := by decide +kernel
theorem dX5_apart_0 : decode cX5_apart 0 = .ok (.aload_n 0, 1) := by decide +kernel
theorem dX5_apart_1 : decode cX5_apart 1 = .ok (.iload_n 1, 1) := by decide +kernel
theorem dX5_apart_2 : decode cX5_apart 2 = .ok (.iload_n 2, 1) := by decide +kernel
theorem dX5_apart_3 : decode cX5_apart 3 = .ok (.invokevirtual 70, 3) := by decide +kernel
theorem dX5_apart_6 : decode cX5_apart 6 = .ok (.ifCond .ne 6, 3) := by decide +kernel
theorem dX5_apart_9 : decode cX5_apart 9 = .ok (.bipush (-2), 2) := by decide +kernel
theorem dX5_apart_11 : decode cX5_apart 11 = .ok (.ireturn, 1) := by decide +kernel
theorem dX5_apart_12 : decode cX5_apart 12 = .ok (.iconst 0, 1) := by decide +kernel
theorem dX5_apart_13 : decode cX5_apart 13 = .ok (.istore_n 3, 1) := by decide +kernel
theorem dX5_apart_14 : decode cX5_apart 14 = .ok (.iload_n 3, 1) := by decide +kernel
theorem dX5_apart_15 : decode cX5_apart 15 = .ok (.aload_n 0, 1) := by decide +kernel
theorem dX5_apart_16 : decode cX5_apart 16 = .ok (.getfield 25, 3) := by decide +kernel
theorem dX5_apart_19 : decode cX5_apart 19 = .ok (.getfield 88, 3) := by decide +kernel
theorem dX5_apart_22 : decode cX5_apart 22 = .ok (.if_icmp .ge 109, 3) := by decide +kernel
theorem dX5_apart_25 : decode cX5_apart 25 = .ok (.aload_n 0, 1) := by decide +kernel
theorem dX5_apart_26 : decode cX5_apart 26 = .ok (.getfield 25, 3) := by decide +kernel
theorem dX5_apart_29 : decode cX5_apart 29 = .ok (.getfield 106, 3) := by decide +kernel
theorem dX5_apart_32 : decode cX5_apart 32 = .ok (.iload_n 3, 1) := by decide +kernel
theorem dX5_apart_33 : decode cX5_apart 33 = .ok (.iaload, 1) := by decide +kernel
theorem dX5_apart_34 : decode cX5_apart 34 = .ok (.istore 4, 2) := by decide +kernel
theorem dX5_apart_36 : decode cX5_apart 36 = .ok (.aload_n 0, 1) := by decide +kernel
theorem dX5_apart_37 : decode cX5_apart 37 = .ok (.getfield 25, 3) := by decide +kernel
theorem dX5_apart_40 : decode cX5_apart 40 = .ok (.getfield 109, 3) := by decide +kernel
theorem dX5_apart_43 : decode cX5_apart 43 = .ok (.iload_n 3, 1) := by decide +kernel
theorem dX5_apart_44 : decode cX5_apart 44 = .ok (.iaload, 1) := by decide +kernel
theorem dX5_apart_45 : decode cX5_apart 45 = .ok (.istore 5, 2) := by decide +kernel
theorem dX5_apart_47 : decode cX5_apart 47 = .ok (.aload_n 0, 1) := by decide +kernel
theorem dX5_apart_48 : decode cX5_apart 48 = .ok (.getfield 38, 3) := by decide +kernel
theorem dX5_apart_51 : decode cX5_apart 51 = .ok (.iload 4, 2) := by decide +kernel
theorem dX5_apart_53 : decode cX5_apart 53 = .ok (.iload_n 1, 1) := by decide +kernel
theorem dX5_apart_54 : decode cX5_apart 54 = .ok (.invokevirtual 103, 3) := by decide +kernel
theorem dX5_apart_57 : decode cX5_apart 57 = .ok (.ifCond .eq 20, 3) := by decide +kernel
theorem dX5_apart_60 : decode cX5_apart 60 = .ok (.aload_n 0, 1) := by decide +kernel
theorem dX5_apart_61 : decode cX5_apart 61 = .ok (.getfield 38, 3) := by decide +kernel
theorem dX5_apart_64 : decode cX5_apart 64 = .ok (.iload 5, 2) := by decide +kernel
theorem dX5_apart_66 : decode cX5_apart 66 = .ok (.iload_n 2, 1) := by decide +kernel
theorem dX5_apart_67 : decode cX5_apart 67 = .ok (.invokevirtual 103, 3) := by decide +kernel
theorem dX5_apart_70 : decode cX5_apart 70 = .ok (.ifCond .eq 7, 3) := by decide +kernel
theorem dX5_apart_73 : decode cX5_apart 73 = .ok (.iconst 1, 1) := by decide +kernel
theorem dX5_apart_74 : decode cX5_apart 74 = .ok (.goto 4, 3) := by decide +kernel
theorem dX5_apart_77 : decode cX5_apart 77 = .ok (.iconst 0, 1) := by decide +kernel
theorem dX5_apart_78 : decode cX5_apart 78 = .ok (.istore 6, 2) := by decide +kernel
theorem dX5_apart_80 : decode cX5_apart 80 = .ok (.aload_n 0, 1) := by decide +kernel
theorem dX5_apart_81 : decode cX5_apart 81 = .ok (.getfield 38, 3) := by decide +kernel
theorem dX5_apart_84 : decode cX5_apart 84 = .ok (.iload 4, 2) := by decide +kernel
theorem dX5_apart_86 : decode cX5_apart 86 = .ok (.iload_n 2, 1) := by decide +kernel
theorem dX5_apart_87 : decode cX5_apart 87 = .ok (.invokevirtual 103, 3) := by decide +kernel
theorem dX5_apart_90 : decode cX5_apart 90 = .ok (.ifCond .eq 20, 3) := by decide +kernel
theorem dX5_apart_93 : decode cX5_apart 93 = .ok (.aload_n 0, 1) := by decide +kernel
theorem dX5_apart_94 : decode cX5_apart 94 = .ok (.getfield 38, 3) := by decide +kernel
theorem dX5_apart_97 : decode cX5_apart 97 = .ok (.iload 5, 2) := by decide +kernel
theorem dX5_apart_99 : decode cX5_apart 99 = .ok (.iload_n 1, 1) := by decide +kernel
theorem dX5_apart_100 : decode cX5_apart 100 = .ok (.invokevirtual 103, 3) := by decide +kernel
theorem dX5_apart_103 : decode cX5_apart 103 = .ok (.ifCond .eq 7, 3) := by decide +kernel
theorem dX5_apart_106 : decode cX5_apart 106 = .ok (.iconst 1, 1) := by decide +kernel
theorem dX5_apart_107 : decode cX5_apart 107 = .ok (.goto 4, 3) := by decide +kernel
theorem dX5_apart_110 : decode cX5_apart 110 = .ok (.iconst 0, 1) := by decide +kernel
theorem dX5_apart_111 : decode cX5_apart 111 = .ok (.istore 7, 2) := by decide +kernel
theorem dX5_apart_113 : decode cX5_apart 113 = .ok (.iload 6, 2) := by decide +kernel
theorem dX5_apart_115 : decode cX5_apart 115 = .ok (.ifCond .ne 8, 3) := by decide +kernel
theorem dX5_apart_118 : decode cX5_apart 118 = .ok (.iload 7, 2) := by decide +kernel
theorem dX5_apart_120 : decode cX5_apart 120 = .ok (.ifCond .eq 5, 3) := by decide +kernel
theorem dX5_apart_123 : decode cX5_apart 123 = .ok (.iconst 1, 1) := by decide +kernel
theorem dX5_apart_124 : decode cX5_apart 124 = .ok (.ireturn, 1) := by decide +kernel
theorem dX5_apart_125 : decode cX5_apart 125 = .ok (.iinc 3 1, 3) := by decide +kernel
theorem dX5_apart_128 : decode cX5_apart 128 = .ok (.goto (-114), 3) := by decide +kernel
theorem dX5_apart_131 : decode cX5_apart 131 = .ok (.iconst 0, 1) := by decide +kernel
theorem dX5_apart_132 : decode cX5_apart 132 = .ok (.ireturn, 1) := by decide +kernel
theorem dX5_consistent_0 : decode cX5_consistent 0 = .ok (.iconst 0, 1) := by decide +kernel
theorem dX5_consistent_1 : decode cX5_consistent 1 = .ok (.istore_n 1, 1) := by decide +kernel
theorem dX5_consistent_2 : decode cX5_consistent 2 = .ok (.iload_n 1, 1) := by decide +kernel
theorem dX5_consistent_3 : decode cX5_consistent 3 = .ok (.aload_n 0, 1) := by decide +kernel
theorem dX5_consistent_4 : decode cX5_consistent 4 = .ok (.getfield 25, 3) := by decide +kernel
theorem dX5_consistent_7 : decode cX5_consistent 7 = .ok (.getfield 88, 3) := by decide +kernel
theorem dX5_consistent_10 : decode cX5_consistent 10 = .ok (.if_icmp .ge 39, 3) := by decide +kernel
theorem dX5_consistent_13 : decode cX5_consistent 13 = .ok (.aload_n 0, 1) := by decide +kernel
theorem dX5_consistent_14 : decode cX5_consistent 14 = .ok (.getfield 38, 3) := by decide +kernel
theorem dX5_consistent_17 : decode cX5_consistent 17 = .ok (.aload_n 0, 1) := by decide +kernel
theorem dX5_consistent_18 : decode cX5_consistent 18 = .ok (.getfield 25, 3) := by decide +kernel
theorem dX5_consistent_21 : decode cX5_consistent 21 = .ok (.getfield 106, 3) := by decide +kernel
theorem dX5_consistent_24 : decode cX5_consistent 24 = .ok (.iload_n 1, 1) := by decide +kernel
theorem dX5_consistent_25 : decode cX5_consistent 25 = .ok (.iaload, 1) := by decide +kernel
theorem dX5_consistent_26 : decode cX5_consistent 26 = .ok (.aload_n 0, 1) := by decide +kernel
theorem dX5_consistent_27 : decode cX5_consistent 27 = .ok (.getfield 25, 3) := by decide +kernel
theorem dX5_consistent_30 : decode cX5_consistent 30 = .ok (.getfield 109, 3) := by decide +kernel
theorem dX5_consistent_33 : decode cX5_consistent 33 = .ok (.iload_n 1, 1) := by decide +kernel
theorem dX5_consistent_34 : decode cX5_consistent 34 = .ok (.iaload, 1) := by decide +kernel
theorem dX5_consistent_35 : decode cX5_consistent 35 = .ok (.invokevirtual 103, 3) := by decide +kernel
theorem dX5_consistent_38 : decode cX5_consistent 38 = .ok (.ifCond .eq 5, 3) := by decide +kernel
theorem dX5_consistent_41 : decode cX5_consistent 41 = .ok (.iconst 0, 1) := by decide +kernel
theorem dX5_consistent_42 : decode cX5_consistent 42 = .ok (.ireturn, 1) := by decide +kernel
theorem dX5_consistent_43 : decode cX5_consistent 43 = .ok (.iinc 1 1, 3) := by decide +kernel
theorem dX5_consistent_46 : decode cX5_consistent 46 = .ok (.goto (-44), 3) := by decide +kernel
theorem dX5_consistent_49 : decode cX5_consistent 49 = .ok (.iconst 1, 1) := by decide +kernel
theorem dX5_consistent_50 : decode cX5_consistent 50 = .ok (.ireturn, 1) := by decide +kernel
theorem dX5_leader_0 : decode cX5_leader 0 = .ok (.aload_n 0, 1) := by decide +kernel
theorem dX5_leader_1 : decode cX5_leader 1 = .ok (.iload_n 1, 1) := by decide +kernel
theorem dX5_leader_2 : decode cX5_leader 2 = .ok (.invokevirtual 112, 3) := by decide +kernel
theorem dX5_leader_5 : decode cX5_leader 5 = .ok (.ifCond .eq 15, 3) := by decide +kernel
theorem dX5_leader_8 : decode cX5_leader 8 = .ok (.aload_n 0, 1) := by decide +kernel
theorem dX5_leader_9 : decode cX5_leader 9 = .ok (.getfield 38, 3) := by decide +kernel
theorem dX5_leader_12 : decode cX5_leader 12 = .ok (.getfield 116, 3) := by decide +kernel
theorem dX5_leader_15 : decode cX5_leader 15 = .ok (.iload_n 1, 1) := by decide +kernel
theorem dX5_leader_16 : decode cX5_leader 16 = .ok (.iaload, 1) := by decide +kernel
theorem dX5_leader_17 : decode cX5_leader 17 = .ok (.goto 5, 3) := by decide +kernel
theorem dX5_leader_20 : decode cX5_leader 20 = .ok (.bipush (-2), 2) := by decide +kernel
theorem dX5_leader_22 : decode cX5_leader 22 = .ok (.ireturn, 1) := by decide +kernel
theorem dX5_members_0 : decode cX5_members 0 = .ok (.aload_n 0, 1) := by decide +kernel
theorem dX5_members_1 : decode cX5_members 1 = .ok (.iload_n 1, 1) := by decide +kernel
theorem dX5_members_2 : decode cX5_members 2 = .ok (.invokevirtual 112, 3) := by decide +kernel
theorem dX5_members_5 : decode cX5_members 5 = .ok (.ifCond .ne 6, 3) := by decide +kernel
theorem dX5_members_8 : decode cX5_members 8 = .ok (.bipush (-2), 2) := by decide +kernel
theorem dX5_members_10 : decode cX5_members 10 = .ok (.ireturn, 1) := by decide +kernel
theorem dX5_members_11 : decode cX5_members 11 = .ok (.iconst 0, 1) := by decide +kernel
theorem dX5_members_12 : decode cX5_members 12 = .ok (.istore_n 2, 1) := by decide +kernel
theorem dX5_members_13 : decode cX5_members 13 = .ok (.iconst 0, 1) := by decide +kernel
theorem dX5_members_14 : decode cX5_members 14 = .ok (.istore_n 3, 1) := by decide +kernel
theorem dX5_members_15 : decode cX5_members 15 = .ok (.iload_n 3, 1) := by decide +kernel
theorem dX5_members_16 : decode cX5_members 16 = .ok (.aload_n 0, 1) := by decide +kernel
theorem dX5_members_17 : decode cX5_members 17 = .ok (.getfield 10, 3) := by decide +kernel
theorem dX5_members_20 : decode cX5_members 20 = .ok (.getfield 60, 3) := by decide +kernel
theorem dX5_members_23 : decode cX5_members 23 = .ok (.if_icmp .ge 24, 3) := by decide +kernel
theorem dX5_members_26 : decode cX5_members 26 = .ok (.aload_n 0, 1) := by decide +kernel
theorem dX5_members_27 : decode cX5_members 27 = .ok (.getfield 38, 3) := by decide +kernel
theorem dX5_members_30 : decode cX5_members 30 = .ok (.iload_n 3, 1) := by decide +kernel
theorem dX5_members_31 : decode cX5_members 31 = .ok (.iload_n 1, 1) := by decide +kernel
theorem dX5_members_32 : decode cX5_members 32 = .ok (.invokevirtual 103, 3) := by decide +kernel
theorem dX5_members_35 : decode cX5_members 35 = .ok (.ifCond .eq 6, 3) := by decide +kernel
theorem dX5_members_38 : decode cX5_members 38 = .ok (.iinc 2 1, 3) := by decide +kernel
theorem dX5_members_41 : decode cX5_members 41 = .ok (.iinc 3 1, 3) := by decide +kernel
theorem dX5_members_44 : decode cX5_members 44 = .ok (.goto (-29), 3) := by decide +kernel
theorem dX5_members_47 : decode cX5_members 47 = .ok (.iload_n 2, 1) := by decide +kernel
theorem dX5_members_48 : decode cX5_members 48 = .ok (.ireturn, 1) := by decide +kernel
theorem dX5_classes_0 : decode cX5_classes 0 = .ok (.aload_n 0, 1) := by decide +kernel
theorem dX5_classes_1 : decode cX5_classes 1 = .ok (.getfield 38, 3) := by decide +kernel
theorem dX5_classes_4 : decode cX5_classes 4 = .ok (.aload_n 0, 1) := by decide +kernel
theorem dX5_classes_5 : decode cX5_classes 5 = .ok (.getfield 10, 3) := by decide +kernel
theorem dX5_classes_8 : decode cX5_classes 8 = .ok (.getfield 60, 3) := by decide +kernel
theorem dX5_classes_11 : decode cX5_classes 11 = .ok (.invokevirtual 78, 3) := by decide +kernel
theorem dX5_classes_14 : decode cX5_classes 14 = .ok (.ireturn, 1) := by decide +kernel
theorem dX5_find_0 : decode cX5_find 0 = .ok (.aload_n 0, 1) := by decide +kernel
theorem dX5_find_1 : decode cX5_find 1 = .ok (.iload_n 1, 1) := by decide +kernel
theorem dX5_find_2 : decode cX5_find 2 = .ok (.iload_n 2, 1) := by decide +kernel
theorem dX5_find_3 : decode cX5_find 3 = .ok (.iload_n 3, 1) := by decide +kernel
theorem dX5_find_4 : decode cX5_find 4 = .ok (.invokevirtual 52, 3) := by decide +kernel
theorem dX5_find_7 : decode cX5_find 7 = .ok (.ifCond .ne 6, 3) := by decide +kernel
theorem dX5_find_10 : decode cX5_find 10 = .ok (.bipush (-2), 2) := by decide +kernel
theorem dX5_find_12 : decode cX5_find 12 = .ok (.ireturn, 1) := by decide +kernel
theorem dX5_find_13 : decode cX5_find 13 = .ok (.iconst 0, 1) := by decide +kernel
theorem dX5_find_14 : decode cX5_find 14 = .ok (.istore 4, 2) := by decide +kernel
theorem dX5_find_16 : decode cX5_find 16 = .ok (.iload 4, 2) := by decide +kernel
theorem dX5_find_18 : decode cX5_find 18 = .ok (.aload_n 0, 1) := by decide +kernel
theorem dX5_find_19 : decode cX5_find 19 = .ok (.getfield 10, 3) := by decide +kernel
theorem dX5_find_22 : decode cX5_find 22 = .ok (.getfield 60, 3) := by decide +kernel
theorem dX5_find_25 : decode cX5_find 25 = .ok (.if_icmp .ge 39, 3) := by decide +kernel
theorem dX5_find_28 : decode cX5_find 28 = .ok (.aload_n 0, 1) := by decide +kernel
theorem dX5_find_29 : decode cX5_find 29 = .ok (.getfield 38, 3) := by decide +kernel
theorem dX5_find_32 : decode cX5_find 32 = .ok (.aload_n 0, 1) := by decide +kernel
theorem dX5_find_33 : decode cX5_find 33 = .ok (.getfield 10, 3) := by decide +kernel
theorem dX5_find_36 : decode cX5_find 36 = .ok (.iload 4, 2) := by decide +kernel
theorem dX5_find_38 : decode cX5_find 38 = .ok (.iload_n 1, 1) := by decide +kernel
theorem dX5_find_39 : decode cX5_find 39 = .ok (.iload_n 2, 1) := by decide +kernel
theorem dX5_find_40 : decode cX5_find 40 = .ok (.iload_n 3, 1) := by decide +kernel
theorem dX5_find_41 : decode cX5_find 41 = .ok (.invokevirtual 119, 3) := by decide +kernel
theorem dX5_find_44 : decode cX5_find 44 = .ok (.ifCond .eq 14, 3) := by decide +kernel
theorem dX5_find_47 : decode cX5_find 47 = .ok (.aload_n 0, 1) := by decide +kernel
theorem dX5_find_48 : decode cX5_find 48 = .ok (.getfield 38, 3) := by decide +kernel
theorem dX5_find_51 : decode cX5_find 51 = .ok (.getfield 116, 3) := by decide +kernel
theorem dX5_find_54 : decode cX5_find 54 = .ok (.iload 4, 2) := by decide +kernel
theorem dX5_find_56 : decode cX5_find 56 = .ok (.iaload, 1) := by decide +kernel
theorem dX5_find_57 : decode cX5_find 57 = .ok (.ireturn, 1) := by decide +kernel
theorem dX5_find_58 : decode cX5_find 58 = .ok (.iinc 4 1, 3) := by decide +kernel
theorem dX5_find_61 : decode cX5_find 61 = .ok (.goto (-45), 3) := by decide +kernel
theorem dX5_find_64 : decode cX5_find 64 = .ok (.iconst (-1), 1) := by decide +kernel
theorem dX5_find_65 : decode cX5_find 65 = .ok (.ireturn, 1) := by decide +kernel
theorem dX5_since_0 : decode cX5_since 0 = .ok (.aload_n 0, 1) := by decide +kernel
theorem dX5_since_1 : decode cX5_since 1 = .ok (.iload_n 1, 1) := by decide +kernel
theorem dX5_since_2 : decode cX5_since 2 = .ok (.iload_n 2, 1) := by decide +kernel
theorem dX5_since_3 : decode cX5_since 3 = .ok (.invokevirtual 70, 3) := by decide +kernel
theorem dX5_since_6 : decode cX5_since 6 = .ok (.ifCond .ne 6, 3) := by decide +kernel
theorem dX5_since_9 : decode cX5_since 9 = .ok (.bipush (-2), 2) := by decide +kernel
theorem dX5_since_11 : decode cX5_since 11 = .ok (.ireturn, 1) := by decide +kernel
theorem dX5_since_12 : decode cX5_since 12 = .ok (.iconst 0, 1) := by decide +kernel
theorem dX5_since_13 : decode cX5_since 13 = .ok (.istore_n 3, 1) := by decide +kernel
theorem dX5_since_14 : decode cX5_since 14 = .ok (.iload_n 3, 1) := by decide +kernel
theorem dX5_since_15 : decode cX5_since 15 = .ok (.aload_n 0, 1) := by decide +kernel
theorem dX5_since_16 : decode cX5_since 16 = .ok (.getfield 21, 3) := by decide +kernel
theorem dX5_since_19 : decode cX5_since 19 = .ok (.getfield 88, 3) := by decide +kernel
theorem dX5_since_22 : decode cX5_since 22 = .ok (.if_icmp .gt 24, 3) := by decide +kernel
theorem dX5_since_25 : decode cX5_since 25 = .ok (.aload_n 0, 1) := by decide +kernel
theorem dX5_since_26 : decode cX5_since 26 = .ok (.iload_n 3, 1) := by decide +kernel
theorem dX5_since_27 : decode cX5_since 27 = .ok (.invokestatic 123, 3) := by decide +kernel
theorem dX5_since_30 : decode cX5_since 30 = .ok (.iload_n 1, 1) := by decide +kernel
theorem dX5_since_31 : decode cX5_since 31 = .ok (.iload_n 2, 1) := by decide +kernel
theorem dX5_since_32 : decode cX5_since 32 = .ok (.invokevirtual 126, 3) := by decide +kernel
theorem dX5_since_35 : decode cX5_since 35 = .ok (.ifCond .eq 5, 3) := by decide +kernel
theorem dX5_since_38 : decode cX5_since 38 = .ok (.iload_n 3, 1) := by decide +kernel
theorem dX5_since_39 : decode cX5_since 39 = .ok (.ireturn, 1) := by decide +kernel
theorem dX5_since_40 : decode cX5_since 40 = .ok (.iinc 3 1, 3) := by decide +kernel
theorem dX5_since_43 : decode cX5_since 43 = .ok (.goto (-29), 3) := by decide +kernel
theorem dX5_since_46 : decode cX5_since 46 = .ok (.iconst (-1), 1) := by decide +kernel
theorem dX5_since_47 : decode cX5_since 47 = .ok (.ireturn, 1) := by decide +kernel
theorem dX5_explanation_0 : decode cX5_explanation 0 = .ok (.aload_n 0, 1) := by decide +kernel
theorem dX5_explanation_1 : decode cX5_explanation 1 = .ok (.iload_n 1, 1) := by decide +kernel
theorem dX5_explanation_2 : decode cX5_explanation 2 = .ok (.iload_n 2, 1) := by decide +kernel
theorem dX5_explanation_3 : decode cX5_explanation 3 = .ok (.invokevirtual 70, 3) := by decide +kernel
theorem dX5_explanation_6 : decode cX5_explanation 6 = .ok (.ifCond .ne 6, 3) := by decide +kernel
theorem dX5_explanation_9 : decode cX5_explanation 9 = .ok (.bipush (-2), 2) := by decide +kernel
theorem dX5_explanation_11 : decode cX5_explanation 11 = .ok (.ireturn, 1) := by decide +kernel
theorem dX5_explanation_12 : decode cX5_explanation 12 = .ok (.aload_n 0, 1) := by decide +kernel
theorem dX5_explanation_13 : decode cX5_explanation 13 = .ok (.getfield 38, 3) := by decide +kernel
theorem dX5_explanation_16 : decode cX5_explanation 16 = .ok (.iload_n 1, 1) := by decide +kernel
theorem dX5_explanation_17 : decode cX5_explanation 17 = .ok (.iload_n 2, 1) := by decide +kernel
theorem dX5_explanation_18 : decode cX5_explanation 18 = .ok (.invokevirtual 103, 3) := by decide +kernel
theorem dX5_explanation_21 : decode cX5_explanation 21 = .ok (.ifCond .ne 5, 3) := by decide +kernel
theorem dX5_explanation_24 : decode cX5_explanation 24 = .ok (.iconst (-1), 1) := by decide +kernel
theorem dX5_explanation_25 : decode cX5_explanation 25 = .ok (.ireturn, 1) := by decide +kernel
theorem dX5_explanation_26 : decode cX5_explanation 26 = .ok (.iconst 0, 1) := by decide +kernel
theorem dX5_explanation_27 : decode cX5_explanation 27 = .ok (.istore_n 3, 1) := by decide +kernel
theorem dX5_explanation_28 : decode cX5_explanation 28 = .ok (.aload_n 0, 1) := by decide +kernel
theorem dX5_explanation_29 : decode cX5_explanation 29 = .ok (.getfield 21, 3) := by decide +kernel
theorem dX5_explanation_32 : decode cX5_explanation 32 = .ok (.getfield 88, 3) := by decide +kernel
theorem dX5_explanation_35 : decode cX5_explanation 35 = .ok (.iconst 1, 1) := by decide +kernel
theorem dX5_explanation_36 : decode cX5_explanation 36 = .ok (.isub, 1) := by decide +kernel
theorem dX5_explanation_37 : decode cX5_explanation 37 = .ok (.istore 4, 2) := by decide +kernel
theorem dX5_explanation_39 : decode cX5_explanation 39 = .ok (.iload 4, 2) := by decide +kernel
theorem dX5_explanation_41 : decode cX5_explanation 41 = .ok (.ifCond .lt 32, 3) := by decide +kernel
theorem dX5_explanation_44 : decode cX5_explanation 44 = .ok (.aload_n 0, 1) := by decide +kernel
theorem dX5_explanation_45 : decode cX5_explanation 45 = .ok (.iload_n 3, 1) := by decide +kernel
theorem dX5_explanation_46 : decode cX5_explanation 46 = .ok (.iload 4, 2) := by decide +kernel
theorem dX5_explanation_48 : decode cX5_explanation 48 = .ok (.invokestatic 123, 3) := by decide +kernel
theorem dX5_explanation_51 : decode cX5_explanation 51 = .ok (.ior, 1) := by decide +kernel
theorem dX5_explanation_52 : decode cX5_explanation 52 = .ok (.iload_n 1, 1) := by decide +kernel
theorem dX5_explanation_53 : decode cX5_explanation 53 = .ok (.iload_n 2, 1) := by decide +kernel
theorem dX5_explanation_54 : decode cX5_explanation 54 = .ok (.invokevirtual 126, 3) := by decide +kernel
theorem dX5_explanation_57 : decode cX5_explanation 57 = .ok (.ifCond .ne 10, 3) := by decide +kernel
theorem dX5_explanation_60 : decode cX5_explanation 60 = .ok (.iload_n 3, 1) := by decide +kernel
theorem dX5_explanation_61 : decode cX5_explanation 61 = .ok (.iconst 1, 1) := by decide +kernel
theorem dX5_explanation_62 : decode cX5_explanation 62 = .ok (.iload 4, 2) := by decide +kernel
theorem dX5_explanation_64 : decode cX5_explanation 64 = .ok (.ishl, 1) := by decide +kernel
theorem dX5_explanation_65 : decode cX5_explanation 65 = .ok (.ior, 1) := by decide +kernel
theorem dX5_explanation_66 : decode cX5_explanation 66 = .ok (.istore_n 3, 1) := by decide +kernel
theorem dX5_explanation_67 : decode cX5_explanation 67 = .ok (.iinc 4 (-1), 3) := by decide +kernel
theorem dX5_explanation_70 : decode cX5_explanation 70 = .ok (.goto (-31), 3) := by decide +kernel
theorem dX5_explanation_73 : decode cX5_explanation 73 = .ok (.iload_n 3, 1) := by decide +kernel
theorem dX5_explanation_74 : decode cX5_explanation 74 = .ok (.ireturn, 1) := by decide +kernel
theorem dX5_needed_0 : decode cX5_needed 0 = .ok (.aload_n 0, 1) := by decide +kernel
theorem dX5_needed_1 : decode cX5_needed 1 = .ok (.iload_n 1, 1) := by decide +kernel
theorem dX5_needed_2 : decode cX5_needed 2 = .ok (.iload_n 2, 1) := by decide +kernel
theorem dX5_needed_3 : decode cX5_needed 3 = .ok (.invokevirtual 70, 3) := by decide +kernel
theorem dX5_needed_6 : decode cX5_needed 6 = .ok (.ifCond .ne 6, 3) := by decide +kernel
theorem dX5_needed_9 : decode cX5_needed 9 = .ok (.bipush (-2), 2) := by decide +kernel
theorem dX5_needed_11 : decode cX5_needed 11 = .ok (.ireturn, 1) := by decide +kernel
theorem dX5_needed_12 : decode cX5_needed 12 = .ok (.aload_n 0, 1) := by decide +kernel
theorem dX5_needed_13 : decode cX5_needed 13 = .ok (.getfield 38, 3) := by decide +kernel
theorem dX5_needed_16 : decode cX5_needed 16 = .ok (.iload_n 1, 1) := by decide +kernel
theorem dX5_needed_17 : decode cX5_needed 17 = .ok (.iload_n 2, 1) := by decide +kernel
theorem dX5_needed_18 : decode cX5_needed 18 = .ok (.invokevirtual 103, 3) := by decide +kernel
theorem dX5_needed_21 : decode cX5_needed 21 = .ok (.ifCond .ne 5, 3) := by decide +kernel
theorem dX5_needed_24 : decode cX5_needed 24 = .ok (.iconst (-1), 1) := by decide +kernel
theorem dX5_needed_25 : decode cX5_needed 25 = .ok (.ireturn, 1) := by decide +kernel
theorem dX5_needed_26 : decode cX5_needed 26 = .ok (.aload_n 0, 1) := by decide +kernel
theorem dX5_needed_27 : decode cX5_needed 27 = .ok (.getfield 21, 3) := by decide +kernel
theorem dX5_needed_30 : decode cX5_needed 30 = .ok (.getfield 88, 3) := by decide +kernel
theorem dX5_needed_33 : decode cX5_needed 33 = .ok (.invokestatic 123, 3) := by decide +kernel
theorem dX5_needed_36 : decode cX5_needed 36 = .ok (.istore_n 3, 1) := by decide +kernel
theorem dX5_needed_37 : decode cX5_needed 37 = .ok (.iconst 0, 1) := by decide +kernel
theorem dX5_needed_38 : decode cX5_needed 38 = .ok (.istore 4, 2) := by decide +kernel
theorem dX5_needed_40 : decode cX5_needed 40 = .ok (.iconst 0, 1) := by decide +kernel
theorem dX5_needed_41 : decode cX5_needed 41 = .ok (.istore 5, 2) := by decide +kernel
theorem dX5_needed_43 : decode cX5_needed 43 = .ok (.iload 5, 2) := by decide +kernel
theorem dX5_needed_45 : decode cX5_needed 45 = .ok (.aload_n 0, 1) := by decide +kernel
theorem dX5_needed_46 : decode cX5_needed 46 = .ok (.getfield 21, 3) := by decide +kernel
theorem dX5_needed_49 : decode cX5_needed 49 = .ok (.getfield 88, 3) := by decide +kernel
theorem dX5_needed_52 : decode cX5_needed 52 = .ok (.if_icmp .ge 35, 3) := by decide +kernel
theorem dX5_needed_55 : decode cX5_needed 55 = .ok (.aload_n 0, 1) := by decide +kernel
theorem dX5_needed_56 : decode cX5_needed 56 = .ok (.iload_n 3, 1) := by decide +kernel
theorem dX5_needed_57 : decode cX5_needed 57 = .ok (.iconst 1, 1) := by decide +kernel
theorem dX5_needed_58 : decode cX5_needed 58 = .ok (.iload 5, 2) := by decide +kernel
theorem dX5_needed_60 : decode cX5_needed 60 = .ok (.ishl, 1) := by decide +kernel
theorem dX5_needed_61 : decode cX5_needed 61 = .ok (.iconst (-1), 1) := by decide +kernel
theorem dX5_needed_62 : decode cX5_needed 62 = .ok (.ixor, 1) := by decide +kernel
theorem dX5_needed_63 : decode cX5_needed 63 = .ok (.iand, 1) := by decide +kernel
theorem dX5_needed_64 : decode cX5_needed 64 = .ok (.iload_n 1, 1) := by decide +kernel
theorem dX5_needed_65 : decode cX5_needed 65 = .ok (.iload_n 2, 1) := by decide +kernel
theorem dX5_needed_66 : decode cX5_needed 66 = .ok (.invokevirtual 126, 3) := by decide +kernel
theorem dX5_needed_69 : decode cX5_needed 69 = .ok (.ifCond .ne 12, 3) := by decide +kernel
theorem dX5_needed_72 : decode cX5_needed 72 = .ok (.iload 4, 2) := by decide +kernel
theorem dX5_needed_74 : decode cX5_needed 74 = .ok (.iconst 1, 1) := by decide +kernel
theorem dX5_needed_75 : decode cX5_needed 75 = .ok (.iload 5, 2) := by decide +kernel
theorem dX5_needed_77 : decode cX5_needed 77 = .ok (.ishl, 1) := by decide +kernel
theorem dX5_needed_78 : decode cX5_needed 78 = .ok (.ior, 1) := by decide +kernel
theorem dX5_needed_79 : decode cX5_needed 79 = .ok (.istore 4, 2) := by decide +kernel
theorem dX5_needed_81 : decode cX5_needed 81 = .ok (.iinc 5 1, 3) := by decide +kernel
theorem dX5_needed_84 : decode cX5_needed 84 = .ok (.goto (-41), 3) := by decide +kernel
theorem dX5_needed_87 : decode cX5_needed 87 = .ok (.iload 4, 2) := by decide +kernel
theorem dX5_needed_89 : decode cX5_needed 89 = .ok (.ireturn, 1) := by decide +kernel
theorem dX5_weight_0 : decode cX5_weight 0 = .ok (.aload_n 0, 1) := by decide +kernel
theorem dX5_weight_1 : decode cX5_weight 1 = .ok (.iload_n 1, 1) := by decide +kernel
theorem dX5_weight_2 : decode cX5_weight 2 = .ok (.invokevirtual 112, 3) := by decide +kernel
theorem dX5_weight_5 : decode cX5_weight 5 = .ok (.ifCond .ne 5, 3) := by decide +kernel
theorem dX5_weight_8 : decode cX5_weight 8 = .ok (.lconst 0, 1) := by decide +kernel
theorem dX5_weight_9 : decode cX5_weight 9 = .ok (.lreturn, 1) := by decide +kernel
theorem dX5_weight_10 : decode cX5_weight 10 = .ok (.aload_n 0, 1) := by decide +kernel
theorem dX5_weight_11 : decode cX5_weight 11 = .ok (.getfield 48, 3) := by decide +kernel
theorem dX5_weight_14 : decode cX5_weight 14 = .ok (.aload_n 0, 1) := by decide +kernel
theorem dX5_weight_15 : decode cX5_weight 15 = .ok (.getfield 10, 3) := by decide +kernel
theorem dX5_weight_18 : decode cX5_weight 18 = .ok (.aload_n 0, 1) := by decide +kernel
theorem dX5_weight_19 : decode cX5_weight 19 = .ok (.getfield 38, 3) := by decide +kernel
theorem dX5_weight_22 : decode cX5_weight 22 = .ok (.invokevirtual 129, 3) := by decide +kernel
theorem dX5_weight_25 : decode cX5_weight 25 = .ok (.aload_n 0, 1) := by decide +kernel
theorem dX5_weight_26 : decode cX5_weight 26 = .ok (.getfield 48, 3) := by decide +kernel
theorem dX5_weight_29 : decode cX5_weight 29 = .ok (.aload_n 0, 1) := by decide +kernel
theorem dX5_weight_30 : decode cX5_weight 30 = .ok (.getfield 38, 3) := by decide +kernel
theorem dX5_weight_33 : decode cX5_weight 33 = .ok (.iload_n 1, 1) := by decide +kernel
theorem dX5_weight_34 : decode cX5_weight 34 = .ok (.invokevirtual 133, 3) := by decide +kernel
theorem dX5_weight_37 : decode cX5_weight 37 = .ok (.lreturn, 1) := by decide +kernel
theorem dX5_best_0 : decode cX5_best 0 = .ok (.aload_n 0, 1) := by decide +kernel
theorem dX5_best_1 : decode cX5_best 1 = .ok (.iload_n 1, 1) := by decide +kernel
theorem dX5_best_2 : decode cX5_best 2 = .ok (.invokevirtual 112, 3) := by decide +kernel
theorem dX5_best_5 : decode cX5_best 5 = .ok (.ifCond .ne 6, 3) := by decide +kernel
theorem dX5_best_8 : decode cX5_best 8 = .ok (.bipush (-2), 2) := by decide +kernel
theorem dX5_best_10 : decode cX5_best 10 = .ok (.ireturn, 1) := by decide +kernel
theorem dX5_best_11 : decode cX5_best 11 = .ok (.aload_n 0, 1) := by decide +kernel
theorem dX5_best_12 : decode cX5_best 12 = .ok (.getfield 48, 3) := by decide +kernel
theorem dX5_best_15 : decode cX5_best 15 = .ok (.aload_n 0, 1) := by decide +kernel
theorem dX5_best_16 : decode cX5_best 16 = .ok (.getfield 10, 3) := by decide +kernel
theorem dX5_best_19 : decode cX5_best 19 = .ok (.aload_n 0, 1) := by decide +kernel
theorem dX5_best_20 : decode cX5_best 20 = .ok (.getfield 38, 3) := by decide +kernel
theorem dX5_best_23 : decode cX5_best 23 = .ok (.invokevirtual 129, 3) := by decide +kernel
theorem dX5_best_26 : decode cX5_best 26 = .ok (.aload_n 0, 1) := by decide +kernel
theorem dX5_best_27 : decode cX5_best 27 = .ok (.getfield 48, 3) := by decide +kernel
theorem dX5_best_30 : decode cX5_best 30 = .ok (.aload_n 0, 1) := by decide +kernel
theorem dX5_best_31 : decode cX5_best 31 = .ok (.getfield 10, 3) := by decide +kernel
theorem dX5_best_34 : decode cX5_best 34 = .ok (.aload_n 0, 1) := by decide +kernel
theorem dX5_best_35 : decode cX5_best 35 = .ok (.getfield 38, 3) := by decide +kernel
theorem dX5_best_38 : decode cX5_best 38 = .ok (.iload_n 1, 1) := by decide +kernel
theorem dX5_best_39 : decode cX5_best 39 = .ok (.invokevirtual 137, 3) := by decide +kernel
theorem dX5_best_42 : decode cX5_best 42 = .ok (.ireturn, 1) := by decide +kernel
theorem dX5_written_0 : decode cX5_written 0 = .ok (.aload_n 0, 1) := by decide +kernel
theorem dX5_written_1 : decode cX5_written 1 = .ok (.iload_n 1, 1) := by decide +kernel
theorem dX5_written_2 : decode cX5_written 2 = .ok (.invokevirtual 112, 3) := by decide +kernel
theorem dX5_written_5 : decode cX5_written 5 = .ok (.ifCond .ne 6, 3) := by decide +kernel
theorem dX5_written_8 : decode cX5_written 8 = .ok (.bipush (-2), 2) := by decide +kernel
theorem dX5_written_10 : decode cX5_written 10 = .ok (.ireturn, 1) := by decide +kernel
theorem dX5_written_11 : decode cX5_written 11 = .ok (.aload_n 0, 1) := by decide +kernel
theorem dX5_written_12 : decode cX5_written 12 = .ok (.getfield 48, 3) := by decide +kernel
theorem dX5_written_15 : decode cX5_written 15 = .ok (.aload_n 0, 1) := by decide +kernel
theorem dX5_written_16 : decode cX5_written 16 = .ok (.getfield 10, 3) := by decide +kernel
theorem dX5_written_19 : decode cX5_written 19 = .ok (.aload_n 0, 1) := by decide +kernel
theorem dX5_written_20 : decode cX5_written 20 = .ok (.getfield 38, 3) := by decide +kernel
theorem dX5_written_23 : decode cX5_written 23 = .ok (.invokevirtual 129, 3) := by decide +kernel
theorem dX5_written_26 : decode cX5_written 26 = .ok (.iload_n 2, 1) := by decide +kernel
theorem dX5_written_27 : decode cX5_written 27 = .ok (.ifCond .lt 21, 3) := by decide +kernel
theorem dX5_written_30 : decode cX5_written 30 = .ok (.iload_n 2, 1) := by decide +kernel
theorem dX5_written_31 : decode cX5_written 31 = .ok (.i2l, 1) := by decide +kernel
theorem dX5_written_32 : decode cX5_written 32 = .ok (.aload_n 0, 1) := by decide +kernel
theorem dX5_written_33 : decode cX5_written 33 = .ok (.getfield 48, 3) := by decide +kernel
theorem dX5_written_36 : decode cX5_written 36 = .ok (.aload_n 0, 1) := by decide +kernel
theorem dX5_written_37 : decode cX5_written 37 = .ok (.getfield 38, 3) := by decide +kernel
theorem dX5_written_40 : decode cX5_written 40 = .ok (.iload_n 1, 1) := by decide +kernel
theorem dX5_written_41 : decode cX5_written 41 = .ok (.invokevirtual 133, 3) := by decide +kernel
theorem dX5_written_44 : decode cX5_written 44 = .ok (.lcmp, 1) := by decide +kernel
theorem dX5_written_45 : decode cX5_written 45 = .ok (.ifCond .lt 5, 3) := by decide +kernel
theorem dX5_written_48 : decode cX5_written 48 = .ok (.iconst (-1), 1) := by decide +kernel
theorem dX5_written_49 : decode cX5_written 49 = .ok (.ireturn, 1) := by decide +kernel
theorem dX5_written_50 : decode cX5_written 50 = .ok (.aload_n 0, 1) := by decide +kernel
theorem dX5_written_51 : decode cX5_written 51 = .ok (.getfield 48, 3) := by decide +kernel
theorem dX5_written_54 : decode cX5_written 54 = .ok (.aload_n 0, 1) := by decide +kernel
theorem dX5_written_55 : decode cX5_written 55 = .ok (.getfield 10, 3) := by decide +kernel
theorem dX5_written_58 : decode cX5_written 58 = .ok (.aload_n 0, 1) := by decide +kernel
theorem dX5_written_59 : decode cX5_written 59 = .ok (.getfield 38, 3) := by decide +kernel
theorem dX5_written_62 : decode cX5_written 62 = .ok (.iload_n 1, 1) := by decide +kernel
theorem dX5_written_63 : decode cX5_written 63 = .ok (.iload_n 2, 1) := by decide +kernel
theorem dX5_written_64 : decode cX5_written 64 = .ok (.invokevirtual 141, 3) := by decide +kernel
theorem dX5_written_67 : decode cX5_written 67 = .ok (.ireturn, 1) := by decide +kernel
theorem dX5_terms_0 : decode cX5_terms 0 = .ok (.aload_n 0, 1) := by decide +kernel
theorem dX5_terms_1 : decode cX5_terms 1 = .ok (.getfield 10, 3) := by decide +kernel
theorem dX5_terms_4 : decode cX5_terms 4 = .ok (.getfield 60, 3) := by decide +kernel
theorem dX5_terms_7 : decode cX5_terms 7 = .ok (.ireturn, 1) := by decide +kernel
theorem dX5_equations_0 : decode cX5_equations 0 = .ok (.aload_n 0, 1) := by decide +kernel
theorem dX5_equations_1 : decode cX5_equations 1 = .ok (.getfield 21, 3) := by decide +kernel
theorem dX5_equations_4 : decode cX5_equations 4 = .ok (.getfield 88, 3) := by decide +kernel
theorem dX5_equations_7 : decode cX5_equations 7 = .ok (.ireturn, 1) := by decide +kernel
theorem dX5_isTerm_0 : decode cX5_isTerm 0 = .ok (.iload_n 1, 1) := by decide +kernel
theorem dX5_isTerm_1 : decode cX5_isTerm 1 = .ok (.ifCond .lt 18, 3) := by decide +kernel
theorem dX5_isTerm_4 : decode cX5_isTerm 4 = .ok (.iload_n 1, 1) := by decide +kernel
theorem dX5_isTerm_5 : decode cX5_isTerm 5 = .ok (.aload_n 0, 1) := by decide +kernel
theorem dX5_isTerm_6 : decode cX5_isTerm 6 = .ok (.getfield 10, 3) := by decide +kernel
theorem dX5_isTerm_9 : decode cX5_isTerm 9 = .ok (.getfield 60, 3) := by decide +kernel
theorem dX5_isTerm_12 : decode cX5_isTerm 12 = .ok (.if_icmp .ge 7, 3) := by decide +kernel
theorem dX5_isTerm_15 : decode cX5_isTerm 15 = .ok (.iconst 1, 1) := by decide +kernel
theorem dX5_isTerm_16 : decode cX5_isTerm 16 = .ok (.goto 4, 3) := by decide +kernel
theorem dX5_isTerm_19 : decode cX5_isTerm 19 = .ok (.iconst 0, 1) := by decide +kernel
theorem dX5_isTerm_20 : decode cX5_isTerm 20 = .ok (.ireturn, 1) := by decide +kernel
theorem dX5_areTerms_0 : decode cX5_areTerms 0 = .ok (.aload_n 0, 1) := by decide +kernel
theorem dX5_areTerms_1 : decode cX5_areTerms 1 = .ok (.iload_n 1, 1) := by decide +kernel
theorem dX5_areTerms_2 : decode cX5_areTerms 2 = .ok (.invokevirtual 112, 3) := by decide +kernel
theorem dX5_areTerms_5 : decode cX5_areTerms 5 = .ok (.ifCond .eq 15, 3) := by decide +kernel
theorem dX5_areTerms_8 : decode cX5_areTerms 8 = .ok (.aload_n 0, 1) := by decide +kernel
theorem dX5_areTerms_9 : decode cX5_areTerms 9 = .ok (.iload_n 2, 1) := by decide +kernel
theorem dX5_areTerms_10 : decode cX5_areTerms 10 = .ok (.invokevirtual 112, 3) := by decide +kernel
theorem dX5_areTerms_13 : decode cX5_areTerms 13 = .ok (.ifCond .eq 7, 3) := by decide +kernel
theorem dX5_areTerms_16 : decode cX5_areTerms 16 = .ok (.iconst 1, 1) := by decide +kernel
theorem dX5_areTerms_17 : decode cX5_areTerms 17 = .ok (.goto 4, 3) := by decide +kernel
theorem dX5_areTerms_20 : decode cX5_areTerms 20 = .ok (.iconst 0, 1) := by decide +kernel
theorem dX5_areTerms_21 : decode cX5_areTerms 21 = .ok (.ireturn, 1) := by decide +kernel
theorem dX5_isShape_0 : decode cX5_isShape 0 = .ok (.iload_n 1, 1) := by decide +kernel
theorem dX5_isShape_1 : decode cX5_isShape 1 = .ok (.ifCond .lt 9, 3) := by decide +kernel
theorem dX5_isShape_4 : decode cX5_isShape 4 = .ok (.iload_n 1, 1) := by decide +kernel
theorem dX5_isShape_5 : decode cX5_isShape 5 = .ok (.bipush 16, 2) := by decide +kernel
theorem dX5_isShape_7 : decode cX5_isShape 7 = .ok (.if_icmp .lt 5, 3) := by decide +kernel
theorem dX5_isShape_10 : decode cX5_isShape 10 = .ok (.iconst 0, 1) := by decide +kernel
theorem dX5_isShape_11 : decode cX5_isShape 11 = .ok (.ireturn, 1) := by decide +kernel
theorem dX5_isShape_12 : decode cX5_isShape 12 = .ok (.iload_n 2, 1) := by decide +kernel
theorem dX5_isShape_13 : decode cX5_isShape 13 = .ok (.iconst (-1), 1) := by decide +kernel
theorem dX5_isShape_14 : decode cX5_isShape 14 = .ok (.if_icmp .ne 14, 3) := by decide +kernel
theorem dX5_isShape_17 : decode cX5_isShape 17 = .ok (.iload_n 3, 1) := by decide +kernel
theorem dX5_isShape_18 : decode cX5_isShape 18 = .ok (.iconst (-1), 1) := by decide +kernel
theorem dX5_isShape_19 : decode cX5_isShape 19 = .ok (.if_icmp .ne 7, 3) := by decide +kernel
theorem dX5_isShape_22 : decode cX5_isShape 22 = .ok (.iconst 1, 1) := by decide +kernel
theorem dX5_isShape_23 : decode cX5_isShape 23 = .ok (.goto 4, 3) := by decide +kernel
theorem dX5_isShape_26 : decode cX5_isShape 26 = .ok (.iconst 0, 1) := by decide +kernel
theorem dX5_isShape_27 : decode cX5_isShape 27 = .ok (.ireturn, 1) := by decide +kernel
theorem dX5_isShape_28 : decode cX5_isShape 28 = .ok (.aload_n 0, 1) := by decide +kernel
theorem dX5_isShape_29 : decode cX5_isShape 29 = .ok (.iload_n 2, 1) := by decide +kernel
theorem dX5_isShape_30 : decode cX5_isShape 30 = .ok (.invokevirtual 112, 3) := by decide +kernel
theorem dX5_isShape_33 : decode cX5_isShape 33 = .ok (.ifCond .eq 20, 3) := by decide +kernel
theorem dX5_isShape_36 : decode cX5_isShape 36 = .ok (.iload_n 3, 1) := by decide +kernel
theorem dX5_isShape_37 : decode cX5_isShape 37 = .ok (.iconst (-1), 1) := by decide +kernel
theorem dX5_isShape_38 : decode cX5_isShape 38 = .ok (.if_icmp .eq 11, 3) := by decide +kernel
theorem dX5_isShape_41 : decode cX5_isShape 41 = .ok (.aload_n 0, 1) := by decide +kernel
theorem dX5_isShape_42 : decode cX5_isShape 42 = .ok (.iload_n 3, 1) := by decide +kernel
theorem dX5_isShape_43 : decode cX5_isShape 43 = .ok (.invokevirtual 112, 3) := by decide +kernel
theorem dX5_isShape_46 : decode cX5_isShape 46 = .ok (.ifCond .eq 7, 3) := by decide +kernel
theorem dX5_isShape_49 : decode cX5_isShape 49 = .ok (.iconst 1, 1) := by decide +kernel
theorem dX5_isShape_50 : decode cX5_isShape 50 = .ok (.goto 4, 3) := by decide +kernel
theorem dX5_isShape_53 : decode cX5_isShape 53 = .ok (.iconst 0, 1) := by decide +kernel
theorem dX5_isShape_54 : decode cX5_isShape 54 = .ok (.ireturn, 1) := by decide +kernel
theorem dX5_settleCurrent_0 : decode cX5_settleCurrent 0 = .ok (.aload_n 0, 1) := by decide +kernel
theorem dX5_settleCurrent_1 : decode cX5_settleCurrent 1 = .ok (.getfield 38, 3) := by decide +kernel
theorem dX5_settleCurrent_4 : decode cX5_settleCurrent 4 = .ok (.aload_n 0, 1) := by decide +kernel
theorem dX5_settleCurrent_5 : decode cX5_settleCurrent 5 = .ok (.getfield 10, 3) := by decide +kernel
theorem dX5_settleCurrent_8 : decode cX5_settleCurrent 8 = .ok (.aload_n 0, 1) := by decide +kernel
theorem dX5_settleCurrent_9 : decode cX5_settleCurrent 9 = .ok (.getfield 21, 3) := by decide +kernel
theorem dX5_settleCurrent_12 : decode cX5_settleCurrent 12 = .ok (.aload_n 0, 1) := by decide +kernel
theorem dX5_settleCurrent_13 : decode cX5_settleCurrent 13 = .ok (.getfield 21, 3) := by decide +kernel
theorem dX5_settleCurrent_16 : decode cX5_settleCurrent 16 = .ok (.getfield 88, 3) := by decide +kernel
theorem dX5_settleCurrent_19 : decode cX5_settleCurrent 19 = .ok (.invokestatic 123, 3) := by decide +kernel
theorem dX5_settleCurrent_22 : decode cX5_settleCurrent 22 = .ok (.invokevirtual 145, 3) := by decide +kernel
theorem dX5_settleCurrent_25 : decode cX5_settleCurrent 25 = .ok (.return_, 1) := by decide +kernel
theorem dX5_followsFrom_0 : decode cX5_followsFrom 0 = .ok (.aload_n 0, 1) := by decide +kernel
theorem dX5_followsFrom_1 : decode cX5_followsFrom 1 = .ok (.getfield 42, 3) := by decide +kernel
theorem dX5_followsFrom_4 : decode cX5_followsFrom 4 = .ok (.aload_n 0, 1) := by decide +kernel
theorem dX5_followsFrom_5 : decode cX5_followsFrom 5 = .ok (.getfield 10, 3) := by decide +kernel
theorem dX5_followsFrom_8 : decode cX5_followsFrom 8 = .ok (.aload_n 0, 1) := by decide +kernel
theorem dX5_followsFrom_9 : decode cX5_followsFrom 9 = .ok (.getfield 21, 3) := by decide +kernel
theorem dX5_followsFrom_12 : decode cX5_followsFrom 12 = .ok (.iload_n 1, 1) := by decide +kernel
theorem dX5_followsFrom_13 : decode cX5_followsFrom 13 = .ok (.invokevirtual 145, 3) := by decide +kernel
theorem dX5_followsFrom_16 : decode cX5_followsFrom 16 = .ok (.aload_n 0, 1) := by decide +kernel
theorem dX5_followsFrom_17 : decode cX5_followsFrom 17 = .ok (.getfield 42, 3) := by decide +kernel
theorem dX5_followsFrom_20 : decode cX5_followsFrom 20 = .ok (.iload_n 2, 1) := by decide +kernel
theorem dX5_followsFrom_21 : decode cX5_followsFrom 21 = .ok (.iload_n 3, 1) := by decide +kernel
theorem dX5_followsFrom_22 : decode cX5_followsFrom 22 = .ok (.invokevirtual 103, 3) := by decide +kernel
theorem dX5_followsFrom_25 : decode cX5_followsFrom 25 = .ok (.ireturn, 1) := by decide +kernel
theorem dX5_allBelow_0 : decode cX5_allBelow 0 = .ok (.iconst 1, 1) := by decide +kernel
theorem dX5_allBelow_1 : decode cX5_allBelow 1 = .ok (.iload_n 0, 1) := by decide +kernel
theorem dX5_allBelow_2 : decode cX5_allBelow 2 = .ok (.ishl, 1) := by decide +kernel
theorem dX5_allBelow_3 : decode cX5_allBelow 3 = .ok (.iconst 1, 1) := by decide +kernel
theorem dX5_allBelow_4 : decode cX5_allBelow 4 = .ok (.isub, 1) := by decide +kernel
theorem dX5_allBelow_5 : decode cX5_allBelow 5 = .ok (.ireturn, 1) := by decide +kernel
end
section
theorem dX6_init_0 : decode cX6_init 0 = .ok (.aload_n 0, 1) := by decide +kernel
theorem dX6_init_1 : decode cX6_init 1 = .ok (.invokespecial 1, 3) := by decide +kernel
theorem dX6_init_4 : decode cX6_init 4 = .ok (.aload_n 0, 1) := by decide +kernel
theorem dX6_init_5 : decode cX6_init 5 = .ok (.bipush 40, 2) := by decide +kernel
theorem dX6_init_7 : decode cX6_init 7 = .ok (.newarray .int, 2) := by decide +kernel
theorem dX6_init_9 : decode cX6_init 9 = .ok (.putfield 7, 3) := by decide +kernel
theorem dX6_init_12 : decode cX6_init 12 = .ok (.aload_n 0, 1) := by decide +kernel
theorem dX6_init_13 : decode cX6_init 13 = .ok (.bipush 40, 2) := by decide +kernel
theorem dX6_init_15 : decode cX6_init 15 = .ok (.newarray .int, 2) := by decide +kernel
theorem dX6_init_17 : decode cX6_init 17 = .ok (.putfield 13, 3) := by decide +kernel
theorem dX6_init_20 : decode cX6_init 20 = .ok (.aload_n 0, 1) := by decide +kernel
theorem dX6_init_21 : decode cX6_init 21 = .ok (.bipush 40, 2) := by decide +kernel
theorem dX6_init_23 : decode cX6_init 23 = .ok (.newarray .int, 2) := by decide +kernel
theorem dX6_init_25 : decode cX6_init 25 = .ok (.putfield 16, 3) := by decide +kernel
theorem dX6_init_28 : decode cX6_init 28 = .ok (.aload_n 0, 1) := by decide +kernel
theorem dX6_init_29 : decode cX6_init 29 = .ok (.bipush 24, 2) := by decide +kernel
theorem dX6_init_31 : decode cX6_init 31 = .ok (.newarray .int, 2) := by decide +kernel
theorem dX6_init_33 : decode cX6_init 33 = .ok (.putfield 19, 3) := by decide +kernel
theorem dX6_init_36 : decode cX6_init 36 = .ok (.aload_n 0, 1) := by decide +kernel
theorem dX6_init_37 : decode cX6_init 37 = .ok (.bipush 24, 2) := by decide +kernel
theorem dX6_init_39 : decode cX6_init 39 = .ok (.newarray .int, 2) := by decide +kernel
theorem dX6_init_41 : decode cX6_init 41 = .ok (.putfield 22, 3) := by decide +kernel
theorem dX6_init_44 : decode cX6_init 44 = .ok (.aload_n 0, 1) := by decide +kernel
theorem dX6_init_45 : decode cX6_init 45 = .ok (.bipush 16, 2) := by decide +kernel
theorem dX6_init_47 : decode cX6_init 47 = .ok (.newarray .int, 2) := by decide +kernel
theorem dX6_init_49 : decode cX6_init 49 = .ok (.putfield 25, 3) := by decide +kernel
theorem dX6_init_52 : decode cX6_init 52 = .ok (.aload_n 0, 1) := by decide +kernel
theorem dX6_init_53 : decode cX6_init 53 = .ok (.bipush 16, 2) := by decide +kernel
theorem dX6_init_55 : decode cX6_init 55 = .ok (.newarray .int, 2) := by decide +kernel
theorem dX6_init_57 : decode cX6_init 57 = .ok (.putfield 28, 3) := by decide +kernel
theorem dX6_init_60 : decode cX6_init 60 = .ok (.aload_n 0, 1) := by decide +kernel
theorem dX6_init_61 : decode cX6_init 61 = .ok (.bipush 6, 2) := by decide +kernel
theorem dX6_init_63 : decode cX6_init 63 = .ok (.newarray .int, 2) := by decide +kernel
theorem dX6_init_65 : decode cX6_init 65 = .ok (.putfield 31, 3) := by decide +kernel
theorem dX6_init_68 : decode cX6_init 68 = .ok (.aload_n 0, 1) := by decide +kernel
theorem dX6_init_69 : decode cX6_init 69 = .ok (.bipush 6, 2) := by decide +kernel
theorem dX6_init_71 : decode cX6_init 71 = .ok (.newarray .int, 2) := by decide +kernel
theorem dX6_init_73 : decode cX6_init 73 = .ok (.putfield 34, 3) := by decide +kernel
theorem dX6_init_76 : decode cX6_init 76 = .ok (.aload_n 0, 1) := by decide +kernel
theorem dX6_init_77 : decode cX6_init 77 = .ok (.bipush 6, 2) := by decide +kernel
theorem dX6_init_79 : decode cX6_init 79 = .ok (.newarray .int, 2) := by decide +kernel
theorem dX6_init_81 : decode cX6_init 81 = .ok (.putfield 37, 3) := by decide +kernel
theorem dX6_init_84 : decode cX6_init 84 = .ok (.aload_n 0, 1) := by decide +kernel
theorem dX6_init_85 : decode cX6_init 85 = .ok (.bipush 40, 2) := by decide +kernel
theorem dX6_init_87 : decode cX6_init 87 = .ok (.newarray .int, 2) := by decide +kernel
theorem dX6_init_89 : decode cX6_init 89 = .ok (.putfield 40, 3) := by decide +kernel
theorem dX6_init_92 : decode cX6_init 92 = .ok (.aload_n 0, 1) := by decide +kernel
theorem dX6_init_93 : decode cX6_init 93 = .ok (.bipush 40, 2) := by decide +kernel
theorem dX6_init_95 : decode cX6_init 95 = .ok (.newarray .long, 2) := by decide +kernel
theorem dX6_init_97 : decode cX6_init 97 = .ok (.putfield 43, 3) := by decide +kernel
theorem dX6_init_100 : decode cX6_init 100 = .ok (.return_, 1) := by decide +kernel
theorem dX6_isTerm_0 : decode cX6_isTerm 0 = .ok (.iload_n 1, 1) := by decide +kernel
theorem dX6_isTerm_1 : decode cX6_isTerm 1 = .ok (.ifCond .lt 15, 3) := by decide +kernel
theorem dX6_isTerm_4 : decode cX6_isTerm 4 = .ok (.iload_n 1, 1) := by decide +kernel
theorem dX6_isTerm_5 : decode cX6_isTerm 5 = .ok (.aload_n 0, 1) := by decide +kernel
theorem dX6_isTerm_6 : decode cX6_isTerm 6 = .ok (.getfield 47, 3) := by decide +kernel
theorem dX6_isTerm_9 : decode cX6_isTerm 9 = .ok (.if_icmp .ge 7, 3) := by decide +kernel
theorem dX6_isTerm_12 : decode cX6_isTerm 12 = .ok (.iconst 1, 1) := by decide +kernel
theorem dX6_isTerm_13 : decode cX6_isTerm 13 = .ok (.goto 4, 3) := by decide +kernel
theorem dX6_isTerm_16 : decode cX6_isTerm 16 = .ok (.iconst 0, 1) := by decide +kernel
theorem dX6_isTerm_17 : decode cX6_isTerm 17 = .ok (.ireturn, 1) := by decide +kernel
theorem dX6_alone_0 : decode cX6_alone 0 = .ok (.iconst 0, 1) := by decide +kernel
theorem dX6_alone_1 : decode cX6_alone 1 = .ok (.istore_n 1, 1) := by decide +kernel
theorem dX6_alone_2 : decode cX6_alone 2 = .ok (.iload_n 1, 1) := by decide +kernel
theorem dX6_alone_3 : decode cX6_alone 3 = .ok (.aload_n 0, 1) := by decide +kernel
theorem dX6_alone_4 : decode cX6_alone 4 = .ok (.getfield 47, 3) := by decide +kernel
theorem dX6_alone_7 : decode cX6_alone 7 = .ok (.if_icmp .ge 16, 3) := by decide +kernel
theorem dX6_alone_10 : decode cX6_alone 10 = .ok (.aload_n 0, 1) := by decide +kernel
theorem dX6_alone_11 : decode cX6_alone 11 = .ok (.getfield 40, 3) := by decide +kernel
theorem dX6_alone_14 : decode cX6_alone 14 = .ok (.iload_n 1, 1) := by decide +kernel
theorem dX6_alone_15 : decode cX6_alone 15 = .ok (.iload_n 1, 1) := by decide +kernel
theorem dX6_alone_16 : decode cX6_alone 16 = .ok (.iastore, 1) := by decide +kernel
theorem dX6_alone_17 : decode cX6_alone 17 = .ok (.iinc 1 1, 3) := by decide +kernel
theorem dX6_alone_20 : decode cX6_alone 20 = .ok (.goto (-18), 3) := by decide +kernel
theorem dX6_alone_23 : decode cX6_alone 23 = .ok (.return_, 1) := by decide +kernel
theorem dX6_join_0 : decode cX6_join 0 = .ok (.aload_n 0, 1) := by decide +kernel
theorem dX6_join_1 : decode cX6_join 1 = .ok (.getfield 40, 3) := by decide +kernel
theorem dX6_join_4 : decode cX6_join 4 = .ok (.iload_n 1, 1) := by decide +kernel
theorem dX6_join_5 : decode cX6_join 5 = .ok (.iaload, 1) := by decide +kernel
theorem dX6_join_6 : decode cX6_join 6 = .ok (.aload_n 0, 1) := by decide +kernel
theorem dX6_join_7 : decode cX6_join 7 = .ok (.getfield 40, 3) := by decide +kernel
theorem dX6_join_10 : decode cX6_join 10 = .ok (.iload_n 2, 1) := by decide +kernel
theorem dX6_join_11 : decode cX6_join 11 = .ok (.iaload, 1) := by decide +kernel
theorem dX6_join_12 : decode cX6_join 12 = .ok (.if_icmp .ge 12, 3) := by decide +kernel
theorem dX6_join_15 : decode cX6_join 15 = .ok (.aload_n 0, 1) := by decide +kernel
theorem dX6_join_16 : decode cX6_join 16 = .ok (.getfield 40, 3) := by decide +kernel
theorem dX6_join_19 : decode cX6_join 19 = .ok (.iload_n 1, 1) := by decide +kernel
theorem dX6_join_20 : decode cX6_join 20 = .ok (.iaload, 1) := by decide +kernel
theorem dX6_join_21 : decode cX6_join 21 = .ok (.goto 9, 3) := by decide +kernel
theorem dX6_join_24 : decode cX6_join 24 = .ok (.aload_n 0, 1) := by decide +kernel
theorem dX6_join_25 : decode cX6_join 25 = .ok (.getfield 40, 3) := by decide +kernel
theorem dX6_join_28 : decode cX6_join 28 = .ok (.iload_n 2, 1) := by decide +kernel
theorem dX6_join_29 : decode cX6_join 29 = .ok (.iaload, 1) := by decide +kernel
theorem dX6_join_30 : decode cX6_join 30 = .ok (.istore_n 3, 1) := by decide +kernel
theorem dX6_join_31 : decode cX6_join 31 = .ok (.aload_n 0, 1) := by decide +kernel
theorem dX6_join_32 : decode cX6_join 32 = .ok (.getfield 40, 3) := by decide +kernel
theorem dX6_join_35 : decode cX6_join 35 = .ok (.iload_n 1, 1) := by decide +kernel
theorem dX6_join_36 : decode cX6_join 36 = .ok (.iaload, 1) := by decide +kernel
theorem dX6_join_37 : decode cX6_join 37 = .ok (.aload_n 0, 1) := by decide +kernel
theorem dX6_join_38 : decode cX6_join 38 = .ok (.getfield 40, 3) := by decide +kernel
theorem dX6_join_41 : decode cX6_join 41 = .ok (.iload_n 2, 1) := by decide +kernel
theorem dX6_join_42 : decode cX6_join 42 = .ok (.iaload, 1) := by decide +kernel
theorem dX6_join_43 : decode cX6_join 43 = .ok (.if_icmp .ge 12, 3) := by decide +kernel
theorem dX6_join_46 : decode cX6_join 46 = .ok (.aload_n 0, 1) := by decide +kernel
theorem dX6_join_47 : decode cX6_join 47 = .ok (.getfield 40, 3) := by decide +kernel
theorem dX6_join_50 : decode cX6_join 50 = .ok (.iload_n 2, 1) := by decide +kernel
theorem dX6_join_51 : decode cX6_join 51 = .ok (.iaload, 1) := by decide +kernel
theorem dX6_join_52 : decode cX6_join 52 = .ok (.goto 9, 3) := by decide +kernel
theorem dX6_join_55 : decode cX6_join 55 = .ok (.aload_n 0, 1) := by decide +kernel
theorem dX6_join_56 : decode cX6_join 56 = .ok (.getfield 40, 3) := by decide +kernel
theorem dX6_join_59 : decode cX6_join 59 = .ok (.iload_n 1, 1) := by decide +kernel
theorem dX6_join_60 : decode cX6_join 60 = .ok (.iaload, 1) := by decide +kernel
theorem dX6_join_61 : decode cX6_join 61 = .ok (.istore 4, 2) := by decide +kernel
theorem dX6_join_63 : decode cX6_join 63 = .ok (.iconst 0, 1) := by decide +kernel
theorem dX6_join_64 : decode cX6_join 64 = .ok (.istore 5, 2) := by decide +kernel
theorem dX6_join_66 : decode cX6_join 66 = .ok (.iload 5, 2) := by decide +kernel
theorem dX6_join_68 : decode cX6_join 68 = .ok (.aload_n 0, 1) := by decide +kernel
theorem dX6_join_69 : decode cX6_join 69 = .ok (.getfield 47, 3) := by decide +kernel
theorem dX6_join_72 : decode cX6_join 72 = .ok (.if_icmp .ge 39, 3) := by decide +kernel
theorem dX6_join_75 : decode cX6_join 75 = .ok (.aload_n 0, 1) := by decide +kernel
theorem dX6_join_76 : decode cX6_join 76 = .ok (.getfield 40, 3) := by decide +kernel
theorem dX6_join_79 : decode cX6_join 79 = .ok (.iload 5, 2) := by decide +kernel
theorem dX6_join_81 : decode cX6_join 81 = .ok (.aload_n 0, 1) := by decide +kernel
theorem dX6_join_82 : decode cX6_join 82 = .ok (.getfield 40, 3) := by decide +kernel
theorem dX6_join_85 : decode cX6_join 85 = .ok (.iload 5, 2) := by decide +kernel
theorem dX6_join_87 : decode cX6_join 87 = .ok (.iaload, 1) := by decide +kernel
theorem dX6_join_88 : decode cX6_join 88 = .ok (.iload 4, 2) := by decide +kernel
theorem dX6_join_90 : decode cX6_join 90 = .ok (.if_icmp .ne 7, 3) := by decide +kernel
theorem dX6_join_93 : decode cX6_join 93 = .ok (.iload_n 3, 1) := by decide +kernel
theorem dX6_join_94 : decode cX6_join 94 = .ok (.goto 10, 3) := by decide +kernel
theorem dX6_join_97 : decode cX6_join 97 = .ok (.aload_n 0, 1) := by decide +kernel
theorem dX6_join_98 : decode cX6_join 98 = .ok (.getfield 40, 3) := by decide +kernel
theorem dX6_join_101 : decode cX6_join 101 = .ok (.iload 5, 2) := by decide +kernel
theorem dX6_join_103 : decode cX6_join 103 = .ok (.iaload, 1) := by decide +kernel
theorem dX6_join_104 : decode cX6_join 104 = .ok (.iastore, 1) := by decide +kernel
theorem dX6_join_105 : decode cX6_join 105 = .ok (.iinc 5 1, 3) := by decide +kernel
theorem dX6_join_108 : decode cX6_join 108 = .ok (.goto (-42), 3) := by decide +kernel
theorem dX6_join_111 : decode cX6_join 111 = .ok (.return_, 1) := by decide +kernel
theorem dX6_sameArgument_0 : decode cX6_sameArgument 0 = .ok (.iload_n 1, 1) := by decide +kernel
theorem dX6_sameArgument_1 : decode cX6_sameArgument 1 = .ok (.ifCond .lt 7, 3) := by decide +kernel
theorem dX6_sameArgument_4 : decode cX6_sameArgument 4 = .ok (.iload_n 2, 1) := by decide +kernel
theorem dX6_sameArgument_5 : decode cX6_sameArgument 5 = .ok (.ifCond .ge 16, 3) := by decide +kernel
theorem dX6_sameArgument_8 : decode cX6_sameArgument 8 = .ok (.iload_n 1, 1) := by decide +kernel
theorem dX6_sameArgument_9 : decode cX6_sameArgument 9 = .ok (.iload_n 2, 1) := by decide +kernel
theorem dX6_sameArgument_10 : decode cX6_sameArgument 10 = .ok (.if_icmp .ne 7, 3) := by decide +kernel
theorem dX6_sameArgument_13 : decode cX6_sameArgument 13 = .ok (.iconst 1, 1) := by decide +kernel
theorem dX6_sameArgument_14 : decode cX6_sameArgument 14 = .ok (.goto 27, 3) := by decide +kernel
theorem dX6_sameArgument_17 : decode cX6_sameArgument 17 = .ok (.iconst 0, 1) := by decide +kernel
theorem dX6_sameArgument_18 : decode cX6_sameArgument 18 = .ok (.goto 23, 3) := by decide +kernel
theorem dX6_sameArgument_21 : decode cX6_sameArgument 21 = .ok (.aload_n 0, 1) := by decide +kernel
theorem dX6_sameArgument_22 : decode cX6_sameArgument 22 = .ok (.getfield 40, 3) := by decide +kernel
theorem dX6_sameArgument_25 : decode cX6_sameArgument 25 = .ok (.iload_n 1, 1) := by decide +kernel
theorem dX6_sameArgument_26 : decode cX6_sameArgument 26 = .ok (.iaload, 1) := by decide +kernel
theorem dX6_sameArgument_27 : decode cX6_sameArgument 27 = .ok (.aload_n 0, 1) := by decide +kernel
theorem dX6_sameArgument_28 : decode cX6_sameArgument 28 = .ok (.getfield 40, 3) := by decide +kernel
theorem dX6_sameArgument_31 : decode cX6_sameArgument 31 = .ok (.iload_n 2, 1) := by decide +kernel
theorem dX6_sameArgument_32 : decode cX6_sameArgument 32 = .ok (.iaload, 1) := by decide +kernel
theorem dX6_sameArgument_33 : decode cX6_sameArgument 33 = .ok (.if_icmp .ne 7, 3) := by decide +kernel
theorem dX6_sameArgument_36 : decode cX6_sameArgument 36 = .ok (.iconst 1, 1) := by decide +kernel
theorem dX6_sameArgument_37 : decode cX6_sameArgument 37 = .ok (.goto 4, 3) := by decide +kernel
theorem dX6_sameArgument_40 : decode cX6_sameArgument 40 = .ok (.iconst 0, 1) := by decide +kernel
theorem dX6_sameArgument_41 : decode cX6_sameArgument 41 = .ok (.ireturn, 1) := by decide +kernel
theorem dX6_alike_0 : decode cX6_alike 0 = .ok (.aload_n 0, 1) := by decide +kernel
theorem dX6_alike_1 : decode cX6_alike 1 = .ok (.getfield 7, 3) := by decide +kernel
theorem dX6_alike_4 : decode cX6_alike 4 = .ok (.iload_n 1, 1) := by decide +kernel
theorem dX6_alike_5 : decode cX6_alike 5 = .ok (.iaload, 1) := by decide +kernel
theorem dX6_alike_6 : decode cX6_alike 6 = .ok (.aload_n 0, 1) := by decide +kernel
theorem dX6_alike_7 : decode cX6_alike 7 = .ok (.getfield 7, 3) := by decide +kernel
theorem dX6_alike_10 : decode cX6_alike 10 = .ok (.iload_n 2, 1) := by decide +kernel
theorem dX6_alike_11 : decode cX6_alike 11 = .ok (.iaload, 1) := by decide +kernel
theorem dX6_alike_12 : decode cX6_alike 12 = .ok (.if_icmp .ne 45, 3) := by decide +kernel
theorem dX6_alike_15 : decode cX6_alike 15 = .ok (.aload_n 0, 1) := by decide +kernel
theorem dX6_alike_16 : decode cX6_alike 16 = .ok (.aload_n 0, 1) := by decide +kernel
theorem dX6_alike_17 : decode cX6_alike 17 = .ok (.getfield 13, 3) := by decide +kernel
theorem dX6_alike_20 : decode cX6_alike 20 = .ok (.iload_n 1, 1) := by decide +kernel
theorem dX6_alike_21 : decode cX6_alike 21 = .ok (.iaload, 1) := by decide +kernel
theorem dX6_alike_22 : decode cX6_alike 22 = .ok (.aload_n 0, 1) := by decide +kernel
theorem dX6_alike_23 : decode cX6_alike 23 = .ok (.getfield 13, 3) := by decide +kernel
theorem dX6_alike_26 : decode cX6_alike 26 = .ok (.iload_n 2, 1) := by decide +kernel
theorem dX6_alike_27 : decode cX6_alike 27 = .ok (.iaload, 1) := by decide +kernel
theorem dX6_alike_28 : decode cX6_alike 28 = .ok (.invokevirtual 51, 3) := by decide +kernel
theorem dX6_alike_31 : decode cX6_alike 31 = .ok (.ifCond .eq 26, 3) := by decide +kernel
theorem dX6_alike_34 : decode cX6_alike 34 = .ok (.aload_n 0, 1) := by decide +kernel
theorem dX6_alike_35 : decode cX6_alike 35 = .ok (.aload_n 0, 1) := by decide +kernel
theorem dX6_alike_36 : decode cX6_alike 36 = .ok (.getfield 16, 3) := by decide +kernel
theorem dX6_alike_39 : decode cX6_alike 39 = .ok (.iload_n 1, 1) := by decide +kernel
theorem dX6_alike_40 : decode cX6_alike 40 = .ok (.iaload, 1) := by decide +kernel
theorem dX6_alike_41 : decode cX6_alike 41 = .ok (.aload_n 0, 1) := by decide +kernel
theorem dX6_alike_42 : decode cX6_alike 42 = .ok (.getfield 16, 3) := by decide +kernel
theorem dX6_alike_45 : decode cX6_alike 45 = .ok (.iload_n 2, 1) := by decide +kernel
theorem dX6_alike_46 : decode cX6_alike 46 = .ok (.iaload, 1) := by decide +kernel
theorem dX6_alike_47 : decode cX6_alike 47 = .ok (.invokevirtual 51, 3) := by decide +kernel
theorem dX6_alike_50 : decode cX6_alike 50 = .ok (.ifCond .eq 7, 3) := by decide +kernel
theorem dX6_alike_53 : decode cX6_alike 53 = .ok (.iconst 1, 1) := by decide +kernel
theorem dX6_alike_54 : decode cX6_alike 54 = .ok (.goto 4, 3) := by decide +kernel
theorem dX6_alike_57 : decode cX6_alike 57 = .ok (.iconst 0, 1) := by decide +kernel
theorem dX6_alike_58 : decode cX6_alike 58 = .ok (.ireturn, 1) := by decide +kernel
theorem dX6_settle_0 : decode cX6_settle 0 = .ok (.iconst 1, 1) := by decide +kernel
theorem dX6_settle_1 : decode cX6_settle 1 = .ok (.istore_n 1, 1) := by decide +kernel
theorem dX6_settle_2 : decode cX6_settle 2 = .ok (.iconst 0, 1) := by decide +kernel
theorem dX6_settle_3 : decode cX6_settle 3 = .ok (.istore_n 2, 1) := by decide +kernel
theorem dX6_settle_4 : decode cX6_settle 4 = .ok (.iload_n 2, 1) := by decide +kernel
theorem dX6_settle_5 : decode cX6_settle 5 = .ok (.bipush 50, 2) := by decide +kernel
theorem dX6_settle_7 : decode cX6_settle 7 = .ok (.if_icmp .ge 81, 3) := by decide +kernel
theorem dX6_settle_10 : decode cX6_settle 10 = .ok (.iload_n 1, 1) := by decide +kernel
theorem dX6_settle_11 : decode cX6_settle 11 = .ok (.ifCond .eq 77, 3) := by decide +kernel
theorem dX6_settle_14 : decode cX6_settle 14 = .ok (.iconst 0, 1) := by decide +kernel
theorem dX6_settle_15 : decode cX6_settle 15 = .ok (.istore_n 1, 1) := by decide +kernel
theorem dX6_settle_16 : decode cX6_settle 16 = .ok (.iconst 0, 1) := by decide +kernel
theorem dX6_settle_17 : decode cX6_settle 17 = .ok (.istore_n 3, 1) := by decide +kernel
theorem dX6_settle_18 : decode cX6_settle 18 = .ok (.iload_n 3, 1) := by decide +kernel
theorem dX6_settle_19 : decode cX6_settle 19 = .ok (.aload_n 0, 1) := by decide +kernel
theorem dX6_settle_20 : decode cX6_settle 20 = .ok (.getfield 47, 3) := by decide +kernel
theorem dX6_settle_23 : decode cX6_settle 23 = .ok (.if_icmp .ge 59, 3) := by decide +kernel
theorem dX6_settle_26 : decode cX6_settle 26 = .ok (.iconst 0, 1) := by decide +kernel
theorem dX6_settle_27 : decode cX6_settle 27 = .ok (.istore 4, 2) := by decide +kernel
theorem dX6_settle_29 : decode cX6_settle 29 = .ok (.iload 4, 2) := by decide +kernel
theorem dX6_settle_31 : decode cX6_settle 31 = .ok (.iload_n 3, 1) := by decide +kernel
theorem dX6_settle_32 : decode cX6_settle 32 = .ok (.if_icmp .ge 44, 3) := by decide +kernel
theorem dX6_settle_35 : decode cX6_settle 35 = .ok (.aload_n 0, 1) := by decide +kernel
theorem dX6_settle_36 : decode cX6_settle 36 = .ok (.getfield 40, 3) := by decide +kernel
theorem dX6_settle_39 : decode cX6_settle 39 = .ok (.iload_n 3, 1) := by decide +kernel
theorem dX6_settle_40 : decode cX6_settle 40 = .ok (.iaload, 1) := by decide +kernel
theorem dX6_settle_41 : decode cX6_settle 41 = .ok (.aload_n 0, 1) := by decide +kernel
theorem dX6_settle_42 : decode cX6_settle 42 = .ok (.getfield 40, 3) := by decide +kernel
theorem dX6_settle_45 : decode cX6_settle 45 = .ok (.iload 4, 2) := by decide +kernel
theorem dX6_settle_47 : decode cX6_settle 47 = .ok (.iaload, 1) := by decide +kernel
theorem dX6_settle_48 : decode cX6_settle 48 = .ok (.if_icmp .eq 22, 3) := by decide +kernel
theorem dX6_settle_51 : decode cX6_settle 51 = .ok (.aload_n 0, 1) := by decide +kernel
theorem dX6_settle_52 : decode cX6_settle 52 = .ok (.iload_n 3, 1) := by decide +kernel
theorem dX6_settle_53 : decode cX6_settle 53 = .ok (.iload 4, 2) := by decide +kernel
theorem dX6_settle_55 : decode cX6_settle 55 = .ok (.invokevirtual 55, 3) := by decide +kernel
theorem dX6_settle_58 : decode cX6_settle 58 = .ok (.ifCond .eq 12, 3) := by decide +kernel
theorem dX6_settle_61 : decode cX6_settle 61 = .ok (.aload_n 0, 1) := by decide +kernel
theorem dX6_settle_62 : decode cX6_settle 62 = .ok (.iload_n 3, 1) := by decide +kernel
theorem dX6_settle_63 : decode cX6_settle 63 = .ok (.iload 4, 2) := by decide +kernel
theorem dX6_settle_65 : decode cX6_settle 65 = .ok (.invokevirtual 58, 3) := by decide +kernel
theorem dX6_settle_68 : decode cX6_settle 68 = .ok (.iconst 1, 1) := by decide +kernel
theorem dX6_settle_69 : decode cX6_settle 69 = .ok (.istore_n 1, 1) := by decide +kernel
theorem dX6_settle_70 : decode cX6_settle 70 = .ok (.iinc 4 1, 3) := by decide +kernel
theorem dX6_settle_73 : decode cX6_settle 73 = .ok (.goto (-44), 3) := by decide +kernel
theorem dX6_settle_76 : decode cX6_settle 76 = .ok (.iinc 3 1, 3) := by decide +kernel
theorem dX6_settle_79 : decode cX6_settle 79 = .ok (.goto (-61), 3) := by decide +kernel
theorem dX6_settle_82 : decode cX6_settle 82 = .ok (.iinc 2 1, 3) := by decide +kernel
theorem dX6_settle_85 : decode cX6_settle 85 = .ok (.goto (-81), 3) := by decide +kernel
theorem dX6_settle_88 : decode cX6_settle 88 = .ok (.return_, 1) := by decide +kernel
theorem dX6_work_0 : decode cX6_work 0 = .ok (.aload_n 0, 1) := by decide +kernel
theorem dX6_work_1 : decode cX6_work 1 = .ok (.invokevirtual 62, 3) := by decide +kernel
theorem dX6_work_4 : decode cX6_work 4 = .ok (.iconst 0, 1) := by decide +kernel
theorem dX6_work_5 : decode cX6_work 5 = .ok (.istore_n 3, 1) := by decide +kernel
theorem dX6_work_6 : decode cX6_work 6 = .ok (.iload_n 3, 1) := by decide +kernel
theorem dX6_work_7 : decode cX6_work 7 = .ok (.aload_n 0, 1) := by decide +kernel
theorem dX6_work_8 : decode cX6_work 8 = .ok (.getfield 65, 3) := by decide +kernel
theorem dX6_work_11 : decode cX6_work 11 = .ok (.if_icmp .ge 39, 3) := by decide +kernel
theorem dX6_work_14 : decode cX6_work 14 = .ok (.iload_n 3, 1) := by decide +kernel
theorem dX6_work_15 : decode cX6_work 15 = .ok (.iload_n 2, 1) := by decide +kernel
theorem dX6_work_16 : decode cX6_work 16 = .ok (.if_icmp .lt 12, 3) := by decide +kernel
theorem dX6_work_19 : decode cX6_work 19 = .ok (.iload_n 1, 1) := by decide +kernel
theorem dX6_work_20 : decode cX6_work 20 = .ok (.iload_n 3, 1) := by decide +kernel
theorem dX6_work_21 : decode cX6_work 21 = .ok (.ishr, 1) := by decide +kernel
theorem dX6_work_22 : decode cX6_work 22 = .ok (.iconst 1, 1) := by decide +kernel
theorem dX6_work_23 : decode cX6_work 23 = .ok (.iand, 1) := by decide +kernel
theorem dX6_work_24 : decode cX6_work 24 = .ok (.iconst 1, 1) := by decide +kernel
theorem dX6_work_25 : decode cX6_work 25 = .ok (.if_icmp .ne 19, 3) := by decide +kernel
theorem dX6_work_28 : decode cX6_work 28 = .ok (.aload_n 0, 1) := by decide +kernel
theorem dX6_work_29 : decode cX6_work 29 = .ok (.aload_n 0, 1) := by decide +kernel
theorem dX6_work_30 : decode cX6_work 30 = .ok (.getfield 19, 3) := by decide +kernel
theorem dX6_work_33 : decode cX6_work 33 = .ok (.iload_n 3, 1) := by decide +kernel
theorem dX6_work_34 : decode cX6_work 34 = .ok (.iaload, 1) := by decide +kernel
theorem dX6_work_35 : decode cX6_work 35 = .ok (.aload_n 0, 1) := by decide +kernel
theorem dX6_work_36 : decode cX6_work 36 = .ok (.getfield 22, 3) := by decide +kernel
theorem dX6_work_39 : decode cX6_work 39 = .ok (.iload_n 3, 1) := by decide +kernel
theorem dX6_work_40 : decode cX6_work 40 = .ok (.iaload, 1) := by decide +kernel
theorem dX6_work_41 : decode cX6_work 41 = .ok (.invokevirtual 58, 3) := by decide +kernel
theorem dX6_work_44 : decode cX6_work 44 = .ok (.iinc 3 1, 3) := by decide +kernel
theorem dX6_work_47 : decode cX6_work 47 = .ok (.goto (-41), 3) := by decide +kernel
theorem dX6_work_50 : decode cX6_work 50 = .ok (.aload_n 0, 1) := by decide +kernel
theorem dX6_work_51 : decode cX6_work 51 = .ok (.invokevirtual 68, 3) := by decide +kernel
theorem dX6_work_54 : decode cX6_work 54 = .ok (.return_, 1) := by decide +kernel
theorem dX6_workAll_0 : decode cX6_workAll 0 = .ok (.aload_n 0, 1) := by decide +kernel
theorem dX6_workAll_1 : decode cX6_workAll 1 = .ok (.iconst 0, 1) := by decide +kernel
theorem dX6_workAll_2 : decode cX6_workAll 2 = .ok (.aload_n 0, 1) := by decide +kernel
theorem dX6_workAll_3 : decode cX6_workAll 3 = .ok (.getfield 65, 3) := by decide +kernel
theorem dX6_workAll_6 : decode cX6_workAll 6 = .ok (.invokevirtual 71, 3) := by decide +kernel
theorem dX6_workAll_9 : decode cX6_workAll 9 = .ok (.return_, 1) := by decide +kernel
theorem dX6_joined_0 : decode cX6_joined 0 = .ok (.aload_n 0, 1) := by decide +kernel
theorem dX6_joined_1 : decode cX6_joined 1 = .ok (.getfield 40, 3) := by decide +kernel
theorem dX6_joined_4 : decode cX6_joined 4 = .ok (.iload_n 1, 1) := by decide +kernel
theorem dX6_joined_5 : decode cX6_joined 5 = .ok (.iaload, 1) := by decide +kernel
theorem dX6_joined_6 : decode cX6_joined 6 = .ok (.aload_n 0, 1) := by decide +kernel
theorem dX6_joined_7 : decode cX6_joined 7 = .ok (.getfield 40, 3) := by decide +kernel
theorem dX6_joined_10 : decode cX6_joined 10 = .ok (.iload_n 2, 1) := by decide +kernel
theorem dX6_joined_11 : decode cX6_joined 11 = .ok (.iaload, 1) := by decide +kernel
theorem dX6_joined_12 : decode cX6_joined 12 = .ok (.if_icmp .ne 7, 3) := by decide +kernel
theorem dX6_joined_15 : decode cX6_joined 15 = .ok (.iconst 1, 1) := by decide +kernel
theorem dX6_joined_16 : decode cX6_joined 16 = .ok (.goto 4, 3) := by decide +kernel
theorem dX6_joined_19 : decode cX6_joined 19 = .ok (.iconst 0, 1) := by decide +kernel
theorem dX6_joined_20 : decode cX6_joined 20 = .ok (.ireturn, 1) := by decide +kernel
theorem dX6_first_0 : decode cX6_first 0 = .ok (.iconst 0, 1) := by decide +kernel
theorem dX6_first_1 : decode cX6_first 1 = .ok (.istore 4, 2) := by decide +kernel
theorem dX6_first_3 : decode cX6_first 3 = .ok (.iload 4, 2) := by decide +kernel
theorem dX6_first_5 : decode cX6_first 5 = .ok (.aload_n 0, 1) := by decide +kernel
theorem dX6_first_6 : decode cX6_first 6 = .ok (.getfield 65, 3) := by decide +kernel
theorem dX6_first_9 : decode cX6_first 9 = .ok (.if_icmp .gt 28, 3) := by decide +kernel
theorem dX6_first_12 : decode cX6_first 12 = .ok (.aload_n 0, 1) := by decide +kernel
theorem dX6_first_13 : decode cX6_first 13 = .ok (.iload_n 1, 1) := by decide +kernel
theorem dX6_first_14 : decode cX6_first 14 = .ok (.iload 4, 2) := by decide +kernel
theorem dX6_first_16 : decode cX6_first 16 = .ok (.invokevirtual 71, 3) := by decide +kernel
theorem dX6_first_19 : decode cX6_first 19 = .ok (.aload_n 0, 1) := by decide +kernel
theorem dX6_first_20 : decode cX6_first 20 = .ok (.iload_n 2, 1) := by decide +kernel
theorem dX6_first_21 : decode cX6_first 21 = .ok (.iload_n 3, 1) := by decide +kernel
theorem dX6_first_22 : decode cX6_first 22 = .ok (.invokevirtual 74, 3) := by decide +kernel
theorem dX6_first_25 : decode cX6_first 25 = .ok (.ifCond .eq 6, 3) := by decide +kernel
theorem dX6_first_28 : decode cX6_first 28 = .ok (.iload 4, 2) := by decide +kernel
theorem dX6_first_30 : decode cX6_first 30 = .ok (.ireturn, 1) := by decide +kernel
theorem dX6_first_31 : decode cX6_first 31 = .ok (.iinc 4 1, 3) := by decide +kernel
theorem dX6_first_34 : decode cX6_first 34 = .ok (.goto (-31), 3) := by decide +kernel
theorem dX6_first_37 : decode cX6_first 37 = .ok (.iconst (-1), 1) := by decide +kernel
theorem dX6_first_38 : decode cX6_first 38 = .ok (.ireturn, 1) := by decide +kernel
theorem dX6_kinds_0 : decode cX6_kinds 0 = .ok (.iconst 0, 1) := by decide +kernel
theorem dX6_kinds_1 : decode cX6_kinds 1 = .ok (.istore_n 1, 1) := by decide +kernel
theorem dX6_kinds_2 : decode cX6_kinds 2 = .ok (.iconst 0, 1) := by decide +kernel
theorem dX6_kinds_3 : decode cX6_kinds 3 = .ok (.istore_n 2, 1) := by decide +kernel
theorem dX6_kinds_4 : decode cX6_kinds 4 = .ok (.iload_n 2, 1) := by decide +kernel
theorem dX6_kinds_5 : decode cX6_kinds 5 = .ok (.aload_n 0, 1) := by decide +kernel
theorem dX6_kinds_6 : decode cX6_kinds 6 = .ok (.getfield 47, 3) := by decide +kernel
theorem dX6_kinds_9 : decode cX6_kinds 9 = .ok (.if_icmp .ge 27, 3) := by decide +kernel
theorem dX6_kinds_12 : decode cX6_kinds 12 = .ok (.aload_n 0, 1) := by decide +kernel
theorem dX6_kinds_13 : decode cX6_kinds 13 = .ok (.getfield 40, 3) := by decide +kernel
theorem dX6_kinds_16 : decode cX6_kinds 16 = .ok (.iload_n 2, 1) := by decide +kernel
theorem dX6_kinds_17 : decode cX6_kinds 17 = .ok (.iaload, 1) := by decide +kernel
theorem dX6_kinds_18 : decode cX6_kinds 18 = .ok (.iload_n 2, 1) := by decide +kernel
theorem dX6_kinds_19 : decode cX6_kinds 19 = .ok (.if_icmp .ne 9, 3) := by decide +kernel
theorem dX6_kinds_22 : decode cX6_kinds 22 = .ok (.iload_n 1, 1) := by decide +kernel
theorem dX6_kinds_23 : decode cX6_kinds 23 = .ok (.iconst 1, 1) := by decide +kernel
theorem dX6_kinds_24 : decode cX6_kinds 24 = .ok (.iadd, 1) := by decide +kernel
theorem dX6_kinds_25 : decode cX6_kinds 25 = .ok (.goto 4, 3) := by decide +kernel
theorem dX6_kinds_28 : decode cX6_kinds 28 = .ok (.iload_n 1, 1) := by decide +kernel
theorem dX6_kinds_29 : decode cX6_kinds 29 = .ok (.istore_n 1, 1) := by decide +kernel
theorem dX6_kinds_30 : decode cX6_kinds 30 = .ok (.iinc 2 1, 3) := by decide +kernel
theorem dX6_kinds_33 : decode cX6_kinds 33 = .ok (.goto (-29), 3) := by decide +kernel
theorem dX6_kinds_36 : decode cX6_kinds 36 = .ok (.iload_n 1, 1) := by decide +kernel
theorem dX6_kinds_37 : decode cX6_kinds 37 = .ok (.ireturn, 1) := by decide +kernel
theorem dX6_wrongParts_0 : decode cX6_wrongParts 0 = .ok (.iload_n 1, 1) := by decide +kernel
theorem dX6_wrongParts_1 : decode cX6_wrongParts 1 = .ok (.ifCond .lt 49, 3) := by decide +kernel
theorem dX6_wrongParts_4 : decode cX6_wrongParts 4 = .ok (.iload_n 1, 1) := by decide +kernel
theorem dX6_wrongParts_5 : decode cX6_wrongParts 5 = .ok (.bipush 15, 2) := by decide +kernel
theorem dX6_wrongParts_7 : decode cX6_wrongParts 7 = .ok (.if_icmp .gt 43, 3) := by decide +kernel
theorem dX6_wrongParts_10 : decode cX6_wrongParts 10 = .ok (.iload_n 2, 1) := by decide +kernel
theorem dX6_wrongParts_11 : decode cX6_wrongParts 11 = .ok (.iconst (-1), 1) := by decide +kernel
theorem dX6_wrongParts_12 : decode cX6_wrongParts 12 = .ok (.if_icmp .eq 11, 3) := by decide +kernel
theorem dX6_wrongParts_15 : decode cX6_wrongParts 15 = .ok (.aload_n 0, 1) := by decide +kernel
theorem dX6_wrongParts_16 : decode cX6_wrongParts 16 = .ok (.iload_n 2, 1) := by decide +kernel
theorem dX6_wrongParts_17 : decode cX6_wrongParts 17 = .ok (.invokevirtual 77, 3) := by decide +kernel
theorem dX6_wrongParts_20 : decode cX6_wrongParts 20 = .ok (.ifCond .eq 30, 3) := by decide +kernel
theorem dX6_wrongParts_23 : decode cX6_wrongParts 23 = .ok (.iload_n 3, 1) := by decide +kernel
theorem dX6_wrongParts_24 : decode cX6_wrongParts 24 = .ok (.iconst (-1), 1) := by decide +kernel
theorem dX6_wrongParts_25 : decode cX6_wrongParts 25 = .ok (.if_icmp .eq 11, 3) := by decide +kernel
theorem dX6_wrongParts_28 : decode cX6_wrongParts 28 = .ok (.aload_n 0, 1) := by decide +kernel
theorem dX6_wrongParts_29 : decode cX6_wrongParts 29 = .ok (.iload_n 3, 1) := by decide +kernel
theorem dX6_wrongParts_30 : decode cX6_wrongParts 30 = .ok (.invokevirtual 77, 3) := by decide +kernel
theorem dX6_wrongParts_33 : decode cX6_wrongParts 33 = .ok (.ifCond .eq 17, 3) := by decide +kernel
theorem dX6_wrongParts_36 : decode cX6_wrongParts 36 = .ok (.iload_n 2, 1) := by decide +kernel
theorem dX6_wrongParts_37 : decode cX6_wrongParts 37 = .ok (.iconst (-1), 1) := by decide +kernel
theorem dX6_wrongParts_38 : decode cX6_wrongParts 38 = .ok (.if_icmp .ne 8, 3) := by decide +kernel
theorem dX6_wrongParts_41 : decode cX6_wrongParts 41 = .ok (.iload_n 3, 1) := by decide +kernel
theorem dX6_wrongParts_42 : decode cX6_wrongParts 42 = .ok (.iconst (-1), 1) := by decide +kernel
theorem dX6_wrongParts_43 : decode cX6_wrongParts 43 = .ok (.if_icmp .ne 7, 3) := by decide +kernel
theorem dX6_wrongParts_46 : decode cX6_wrongParts 46 = .ok (.iconst 1, 1) := by decide +kernel
theorem dX6_wrongParts_47 : decode cX6_wrongParts 47 = .ok (.goto 4, 3) := by decide +kernel
theorem dX6_wrongParts_50 : decode cX6_wrongParts 50 = .ok (.iconst 0, 1) := by decide +kernel
theorem dX6_wrongParts_51 : decode cX6_wrongParts 51 = .ok (.istore 4, 2) := by decide +kernel
theorem dX6_wrongParts_53 : decode cX6_wrongParts 53 = .ok (.iload 4, 2) := by decide +kernel
theorem dX6_wrongParts_55 : decode cX6_wrongParts 55 = .ok (.ifCond .ne 7, 3) := by decide +kernel
theorem dX6_wrongParts_58 : decode cX6_wrongParts 58 = .ok (.iconst 1, 1) := by decide +kernel
theorem dX6_wrongParts_59 : decode cX6_wrongParts 59 = .ok (.goto 4, 3) := by decide +kernel
theorem dX6_wrongParts_62 : decode cX6_wrongParts 62 = .ok (.iconst 0, 1) := by decide +kernel
theorem dX6_wrongParts_63 : decode cX6_wrongParts 63 = .ok (.ireturn, 1) := by decide +kernel
theorem dX6_make_0 : decode cX6_make 0 = .ok (.aload_n 0, 1) := by decide +kernel
theorem dX6_make_1 : decode cX6_make 1 = .ok (.iload_n 1, 1) := by decide +kernel
theorem dX6_make_2 : decode cX6_make 2 = .ok (.iload_n 2, 1) := by decide +kernel
theorem dX6_make_3 : decode cX6_make 3 = .ok (.iload_n 3, 1) := by decide +kernel
theorem dX6_make_4 : decode cX6_make 4 = .ok (.invokevirtual 81, 3) := by decide +kernel
theorem dX6_make_7 : decode cX6_make 7 = .ok (.ifCond .eq 6, 3) := by decide +kernel
theorem dX6_make_10 : decode cX6_make 10 = .ok (.bipush (-2), 2) := by decide +kernel
theorem dX6_make_12 : decode cX6_make 12 = .ok (.ireturn, 1) := by decide +kernel
theorem dX6_make_13 : decode cX6_make 13 = .ok (.iconst 0, 1) := by decide +kernel
theorem dX6_make_14 : decode cX6_make 14 = .ok (.istore 4, 2) := by decide +kernel
theorem dX6_make_16 : decode cX6_make 16 = .ok (.iload 4, 2) := by decide +kernel
theorem dX6_make_18 : decode cX6_make 18 = .ok (.aload_n 0, 1) := by decide +kernel
theorem dX6_make_19 : decode cX6_make 19 = .ok (.getfield 47, 3) := by decide +kernel
theorem dX6_make_22 : decode cX6_make 22 = .ok (.if_icmp .ge 45, 3) := by decide +kernel
theorem dX6_make_25 : decode cX6_make 25 = .ok (.aload_n 0, 1) := by decide +kernel
theorem dX6_make_26 : decode cX6_make 26 = .ok (.getfield 7, 3) := by decide +kernel
theorem dX6_make_29 : decode cX6_make 29 = .ok (.iload 4, 2) := by decide +kernel
theorem dX6_make_31 : decode cX6_make 31 = .ok (.iaload, 1) := by decide +kernel
theorem dX6_make_32 : decode cX6_make 32 = .ok (.iload_n 1, 1) := by decide +kernel
theorem dX6_make_33 : decode cX6_make 33 = .ok (.if_icmp .ne 28, 3) := by decide +kernel
theorem dX6_make_36 : decode cX6_make 36 = .ok (.aload_n 0, 1) := by decide +kernel
theorem dX6_make_37 : decode cX6_make 37 = .ok (.getfield 13, 3) := by decide +kernel
theorem dX6_make_40 : decode cX6_make 40 = .ok (.iload 4, 2) := by decide +kernel
theorem dX6_make_42 : decode cX6_make 42 = .ok (.iaload, 1) := by decide +kernel
theorem dX6_make_43 : decode cX6_make 43 = .ok (.iload_n 2, 1) := by decide +kernel
theorem dX6_make_44 : decode cX6_make 44 = .ok (.if_icmp .ne 17, 3) := by decide +kernel
theorem dX6_make_47 : decode cX6_make 47 = .ok (.aload_n 0, 1) := by decide +kernel
theorem dX6_make_48 : decode cX6_make 48 = .ok (.getfield 16, 3) := by decide +kernel
theorem dX6_make_51 : decode cX6_make 51 = .ok (.iload 4, 2) := by decide +kernel
theorem dX6_make_53 : decode cX6_make 53 = .ok (.iaload, 1) := by decide +kernel
theorem dX6_make_54 : decode cX6_make 54 = .ok (.iload_n 3, 1) := by decide +kernel
theorem dX6_make_55 : decode cX6_make 55 = .ok (.if_icmp .ne 6, 3) := by decide +kernel
theorem dX6_make_58 : decode cX6_make 58 = .ok (.iload 4, 2) := by decide +kernel
theorem dX6_make_60 : decode cX6_make 60 = .ok (.ireturn, 1) := by decide +kernel
theorem dX6_make_61 : decode cX6_make 61 = .ok (.iinc 4 1, 3) := by decide +kernel
theorem dX6_make_64 : decode cX6_make 64 = .ok (.goto (-48), 3) := by decide +kernel
theorem dX6_make_67 : decode cX6_make 67 = .ok (.aload_n 0, 1) := by decide +kernel
theorem dX6_make_68 : decode cX6_make 68 = .ok (.getfield 47, 3) := by decide +kernel
theorem dX6_make_71 : decode cX6_make 71 = .ok (.bipush 40, 2) := by decide +kernel
theorem dX6_make_73 : decode cX6_make 73 = .ok (.if_icmp .ne 6, 3) := by decide +kernel
theorem dX6_make_76 : decode cX6_make 76 = .ok (.bipush (-3), 2) := by decide +kernel
theorem dX6_make_78 : decode cX6_make 78 = .ok (.ireturn, 1) := by decide +kernel
theorem dX6_make_79 : decode cX6_make 79 = .ok (.aload_n 0, 1) := by decide +kernel
theorem dX6_make_80 : decode cX6_make 80 = .ok (.getfield 7, 3) := by decide +kernel
theorem dX6_make_83 : decode cX6_make 83 = .ok (.aload_n 0, 1) := by decide +kernel
theorem dX6_make_84 : decode cX6_make 84 = .ok (.getfield 47, 3) := by decide +kernel
theorem dX6_make_87 : decode cX6_make 87 = .ok (.iload_n 1, 1) := by decide +kernel
theorem dX6_make_88 : decode cX6_make 88 = .ok (.iastore, 1) := by decide +kernel
theorem dX6_make_89 : decode cX6_make 89 = .ok (.aload_n 0, 1) := by decide +kernel
theorem dX6_make_90 : decode cX6_make 90 = .ok (.getfield 13, 3) := by decide +kernel
theorem dX6_make_93 : decode cX6_make 93 = .ok (.aload_n 0, 1) := by decide +kernel
theorem dX6_make_94 : decode cX6_make 94 = .ok (.getfield 47, 3) := by decide +kernel
theorem dX6_make_97 : decode cX6_make 97 = .ok (.iload_n 2, 1) := by decide +kernel
theorem dX6_make_98 : decode cX6_make 98 = .ok (.iastore, 1) := by decide +kernel
theorem dX6_make_99 : decode cX6_make 99 = .ok (.aload_n 0, 1) := by decide +kernel
theorem dX6_make_100 : decode cX6_make 100 = .ok (.getfield 16, 3) := by decide +kernel
theorem dX6_make_103 : decode cX6_make 103 = .ok (.aload_n 0, 1) := by decide +kernel
theorem dX6_make_104 : decode cX6_make 104 = .ok (.getfield 47, 3) := by decide +kernel
theorem dX6_make_107 : decode cX6_make 107 = .ok (.iload_n 3, 1) := by decide +kernel
theorem dX6_make_108 : decode cX6_make 108 = .ok (.iastore, 1) := by decide +kernel
theorem dX6_make_109 : decode cX6_make 109 = .ok (.aload_n 0, 1) := by decide +kernel
theorem dX6_make_110 : decode cX6_make 110 = .ok (.dup, 1) := by decide +kernel
theorem dX6_make_111 : decode cX6_make 111 = .ok (.getfield 47, 3) := by decide +kernel
theorem dX6_make_114 : decode cX6_make 114 = .ok (.iconst 1, 1) := by decide +kernel
theorem dX6_make_115 : decode cX6_make 115 = .ok (.iadd, 1) := by decide +kernel
theorem dX6_make_116 : decode cX6_make 116 = .ok (.putfield 47, 3) := by decide +kernel
theorem dX6_make_119 : decode cX6_make 119 = .ok (.aload_n 0, 1) := by decide +kernel
theorem dX6_make_120 : decode cX6_make 120 = .ok (.getfield 47, 3) := by decide +kernel
theorem dX6_make_123 : decode cX6_make 123 = .ok (.iconst 1, 1) := by decide +kernel
theorem dX6_make_124 : decode cX6_make 124 = .ok (.isub, 1) := by decide +kernel
theorem dX6_make_125 : decode cX6_make 125 = .ok (.ireturn, 1) := by decide +kernel
theorem dX6_equate_0 : decode cX6_equate 0 = .ok (.aload_n 0, 1) := by decide +kernel
theorem dX6_equate_1 : decode cX6_equate 1 = .ok (.iload_n 1, 1) := by decide +kernel
theorem dX6_equate_2 : decode cX6_equate 2 = .ok (.invokevirtual 77, 3) := by decide +kernel
theorem dX6_equate_5 : decode cX6_equate 5 = .ok (.ifCond .eq 11, 3) := by decide +kernel
theorem dX6_equate_8 : decode cX6_equate 8 = .ok (.aload_n 0, 1) := by decide +kernel
theorem dX6_equate_9 : decode cX6_equate 9 = .ok (.iload_n 2, 1) := by decide +kernel
theorem dX6_equate_10 : decode cX6_equate 10 = .ok (.invokevirtual 77, 3) := by decide +kernel
theorem dX6_equate_13 : decode cX6_equate 13 = .ok (.ifCond .ne 6, 3) := by decide +kernel
theorem dX6_equate_16 : decode cX6_equate 16 = .ok (.bipush (-2), 2) := by decide +kernel
theorem dX6_equate_18 : decode cX6_equate 18 = .ok (.ireturn, 1) := by decide +kernel
theorem dX6_equate_19 : decode cX6_equate 19 = .ok (.aload_n 0, 1) := by decide +kernel
theorem dX6_equate_20 : decode cX6_equate 20 = .ok (.getfield 65, 3) := by decide +kernel
theorem dX6_equate_23 : decode cX6_equate 23 = .ok (.bipush 24, 2) := by decide +kernel
theorem dX6_equate_25 : decode cX6_equate 25 = .ok (.if_icmp .ne 6, 3) := by decide +kernel
theorem dX6_equate_28 : decode cX6_equate 28 = .ok (.bipush (-3), 2) := by decide +kernel
theorem dX6_equate_30 : decode cX6_equate 30 = .ok (.ireturn, 1) := by decide +kernel
theorem dX6_equate_31 : decode cX6_equate 31 = .ok (.aload_n 0, 1) := by decide +kernel
theorem dX6_equate_32 : decode cX6_equate 32 = .ok (.invokevirtual 85, 3) := by decide +kernel
theorem dX6_equate_35 : decode cX6_equate 35 = .ok (.aload_n 0, 1) := by decide +kernel
theorem dX6_equate_36 : decode cX6_equate 36 = .ok (.invokevirtual 88, 3) := by decide +kernel
theorem dX6_equate_39 : decode cX6_equate 39 = .ok (.istore_n 3, 1) := by decide +kernel
theorem dX6_equate_40 : decode cX6_equate 40 = .ok (.aload_n 0, 1) := by decide +kernel
theorem dX6_equate_41 : decode cX6_equate 41 = .ok (.getfield 19, 3) := by decide +kernel
theorem dX6_equate_44 : decode cX6_equate 44 = .ok (.aload_n 0, 1) := by decide +kernel
theorem dX6_equate_45 : decode cX6_equate 45 = .ok (.getfield 65, 3) := by decide +kernel
theorem dX6_equate_48 : decode cX6_equate 48 = .ok (.iload_n 1, 1) := by decide +kernel
theorem dX6_equate_49 : decode cX6_equate 49 = .ok (.iastore, 1) := by decide +kernel
theorem dX6_equate_50 : decode cX6_equate 50 = .ok (.aload_n 0, 1) := by decide +kernel
theorem dX6_equate_51 : decode cX6_equate 51 = .ok (.getfield 22, 3) := by decide +kernel
theorem dX6_equate_54 : decode cX6_equate 54 = .ok (.aload_n 0, 1) := by decide +kernel
theorem dX6_equate_55 : decode cX6_equate 55 = .ok (.getfield 65, 3) := by decide +kernel
theorem dX6_equate_58 : decode cX6_equate 58 = .ok (.iload_n 2, 1) := by decide +kernel
theorem dX6_equate_59 : decode cX6_equate 59 = .ok (.iastore, 1) := by decide +kernel
theorem dX6_equate_60 : decode cX6_equate 60 = .ok (.aload_n 0, 1) := by decide +kernel
theorem dX6_equate_61 : decode cX6_equate 61 = .ok (.dup, 1) := by decide +kernel
theorem dX6_equate_62 : decode cX6_equate 62 = .ok (.getfield 65, 3) := by decide +kernel
theorem dX6_equate_65 : decode cX6_equate 65 = .ok (.iconst 1, 1) := by decide +kernel
theorem dX6_equate_66 : decode cX6_equate 66 = .ok (.iadd, 1) := by decide +kernel
theorem dX6_equate_67 : decode cX6_equate 67 = .ok (.putfield 65, 3) := by decide +kernel
theorem dX6_equate_70 : decode cX6_equate 70 = .ok (.aload_n 0, 1) := by decide +kernel
theorem dX6_equate_71 : decode cX6_equate 71 = .ok (.invokevirtual 85, 3) := by decide +kernel
theorem dX6_equate_74 : decode cX6_equate 74 = .ok (.iload_n 3, 1) := by decide +kernel
theorem dX6_equate_75 : decode cX6_equate 75 = .ok (.aload_n 0, 1) := by decide +kernel
theorem dX6_equate_76 : decode cX6_equate 76 = .ok (.invokevirtual 88, 3) := by decide +kernel
theorem dX6_equate_79 : decode cX6_equate 79 = .ok (.isub, 1) := by decide +kernel
theorem dX6_equate_80 : decode cX6_equate 80 = .ok (.ireturn, 1) := by decide +kernel
theorem dX6_differ_0 : decode cX6_differ 0 = .ok (.aload_n 0, 1) := by decide +kernel
theorem dX6_differ_1 : decode cX6_differ 1 = .ok (.iload_n 1, 1) := by decide +kernel
theorem dX6_differ_2 : decode cX6_differ 2 = .ok (.invokevirtual 77, 3) := by decide +kernel
theorem dX6_differ_5 : decode cX6_differ 5 = .ok (.ifCond .eq 11, 3) := by decide +kernel
theorem dX6_differ_8 : decode cX6_differ 8 = .ok (.aload_n 0, 1) := by decide +kernel
theorem dX6_differ_9 : decode cX6_differ 9 = .ok (.iload_n 2, 1) := by decide +kernel
theorem dX6_differ_10 : decode cX6_differ 10 = .ok (.invokevirtual 77, 3) := by decide +kernel
theorem dX6_differ_13 : decode cX6_differ 13 = .ok (.ifCond .ne 6, 3) := by decide +kernel
theorem dX6_differ_16 : decode cX6_differ 16 = .ok (.bipush (-2), 2) := by decide +kernel
theorem dX6_differ_18 : decode cX6_differ 18 = .ok (.ireturn, 1) := by decide +kernel
theorem dX6_differ_19 : decode cX6_differ 19 = .ok (.aload_n 0, 1) := by decide +kernel
theorem dX6_differ_20 : decode cX6_differ 20 = .ok (.getfield 92, 3) := by decide +kernel
theorem dX6_differ_23 : decode cX6_differ 23 = .ok (.bipush 16, 2) := by decide +kernel
theorem dX6_differ_25 : decode cX6_differ 25 = .ok (.if_icmp .ne 6, 3) := by decide +kernel
theorem dX6_differ_28 : decode cX6_differ 28 = .ok (.bipush (-3), 2) := by decide +kernel
theorem dX6_differ_30 : decode cX6_differ 30 = .ok (.ireturn, 1) := by decide +kernel
theorem dX6_differ_31 : decode cX6_differ 31 = .ok (.aload_n 0, 1) := by decide +kernel
theorem dX6_differ_32 : decode cX6_differ 32 = .ok (.getfield 25, 3) := by decide +kernel
theorem dX6_differ_35 : decode cX6_differ 35 = .ok (.aload_n 0, 1) := by decide +kernel
theorem dX6_differ_36 : decode cX6_differ 36 = .ok (.getfield 92, 3) := by decide +kernel
theorem dX6_differ_39 : decode cX6_differ 39 = .ok (.iload_n 1, 1) := by decide +kernel
theorem dX6_differ_40 : decode cX6_differ 40 = .ok (.iastore, 1) := by decide +kernel
theorem dX6_differ_41 : decode cX6_differ 41 = .ok (.aload_n 0, 1) := by decide +kernel
theorem dX6_differ_42 : decode cX6_differ 42 = .ok (.getfield 28, 3) := by decide +kernel
theorem dX6_differ_45 : decode cX6_differ 45 = .ok (.aload_n 0, 1) := by decide +kernel
theorem dX6_differ_46 : decode cX6_differ 46 = .ok (.getfield 92, 3) := by decide +kernel
theorem dX6_differ_49 : decode cX6_differ 49 = .ok (.iload_n 2, 1) := by decide +kernel
theorem dX6_differ_50 : decode cX6_differ 50 = .ok (.iastore, 1) := by decide +kernel
theorem dX6_differ_51 : decode cX6_differ 51 = .ok (.aload_n 0, 1) := by decide +kernel
theorem dX6_differ_52 : decode cX6_differ 52 = .ok (.dup, 1) := by decide +kernel
theorem dX6_differ_53 : decode cX6_differ 53 = .ok (.getfield 92, 3) := by decide +kernel
theorem dX6_differ_56 : decode cX6_differ 56 = .ok (.iconst 1, 1) := by decide +kernel
theorem dX6_differ_57 : decode cX6_differ 57 = .ok (.iadd, 1) := by decide +kernel
theorem dX6_differ_58 : decode cX6_differ 58 = .ok (.putfield 92, 3) := by decide +kernel
theorem dX6_differ_61 : decode cX6_differ 61 = .ok (.aload_n 0, 1) := by decide +kernel
theorem dX6_differ_62 : decode cX6_differ 62 = .ok (.getfield 92, 3) := by decide +kernel
theorem dX6_differ_65 : decode cX6_differ 65 = .ok (.iconst 1, 1) := by decide +kernel
theorem dX6_differ_66 : decode cX6_differ 66 = .ok (.isub, 1) := by decide +kernel
theorem dX6_differ_67 : decode cX6_differ 67 = .ok (.ireturn, 1) := by decide +kernel
theorem dX6_open_0 : decode cX6_open 0 = .ok (.aload_n 0, 1) := by decide +kernel
theorem dX6_open_1 : decode cX6_open 1 = .ok (.getfield 95, 3) := by decide +kernel
theorem dX6_open_4 : decode cX6_open 4 = .ok (.bipush 6, 2) := by decide +kernel
theorem dX6_open_6 : decode cX6_open 6 = .ok (.if_icmp .ne 6, 3) := by decide +kernel
theorem dX6_open_9 : decode cX6_open 9 = .ok (.bipush (-3), 2) := by decide +kernel
theorem dX6_open_11 : decode cX6_open 11 = .ok (.ireturn, 1) := by decide +kernel
theorem dX6_open_12 : decode cX6_open 12 = .ok (.aload_n 0, 1) := by decide +kernel
theorem dX6_open_13 : decode cX6_open 13 = .ok (.getfield 31, 3) := by decide +kernel
theorem dX6_open_16 : decode cX6_open 16 = .ok (.aload_n 0, 1) := by decide +kernel
theorem dX6_open_17 : decode cX6_open 17 = .ok (.getfield 95, 3) := by decide +kernel
theorem dX6_open_20 : decode cX6_open 20 = .ok (.aload_n 0, 1) := by decide +kernel
theorem dX6_open_21 : decode cX6_open 21 = .ok (.getfield 47, 3) := by decide +kernel
theorem dX6_open_24 : decode cX6_open 24 = .ok (.iastore, 1) := by decide +kernel
theorem dX6_open_25 : decode cX6_open 25 = .ok (.aload_n 0, 1) := by decide +kernel
theorem dX6_open_26 : decode cX6_open 26 = .ok (.getfield 34, 3) := by decide +kernel
theorem dX6_open_29 : decode cX6_open 29 = .ok (.aload_n 0, 1) := by decide +kernel
theorem dX6_open_30 : decode cX6_open 30 = .ok (.getfield 95, 3) := by decide +kernel
theorem dX6_open_33 : decode cX6_open 33 = .ok (.aload_n 0, 1) := by decide +kernel
theorem dX6_open_34 : decode cX6_open 34 = .ok (.getfield 65, 3) := by decide +kernel
theorem dX6_open_37 : decode cX6_open 37 = .ok (.iastore, 1) := by decide +kernel
theorem dX6_open_38 : decode cX6_open 38 = .ok (.aload_n 0, 1) := by decide +kernel
theorem dX6_open_39 : decode cX6_open 39 = .ok (.getfield 37, 3) := by decide +kernel
theorem dX6_open_42 : decode cX6_open 42 = .ok (.aload_n 0, 1) := by decide +kernel
theorem dX6_open_43 : decode cX6_open 43 = .ok (.getfield 95, 3) := by decide +kernel
theorem dX6_open_46 : decode cX6_open 46 = .ok (.aload_n 0, 1) := by decide +kernel
theorem dX6_open_47 : decode cX6_open 47 = .ok (.getfield 92, 3) := by decide +kernel
theorem dX6_open_50 : decode cX6_open 50 = .ok (.iastore, 1) := by decide +kernel
theorem dX6_open_51 : decode cX6_open 51 = .ok (.aload_n 0, 1) := by decide +kernel
theorem dX6_open_52 : decode cX6_open 52 = .ok (.dup, 1) := by decide +kernel
theorem dX6_open_53 : decode cX6_open 53 = .ok (.getfield 95, 3) := by decide +kernel
theorem dX6_open_56 : decode cX6_open 56 = .ok (.iconst 1, 1) := by decide +kernel
theorem dX6_open_57 : decode cX6_open 57 = .ok (.iadd, 1) := by decide +kernel
theorem dX6_open_58 : decode cX6_open 58 = .ok (.putfield 95, 3) := by decide +kernel
theorem dX6_open_61 : decode cX6_open 61 = .ok (.aload_n 0, 1) := by decide +kernel
theorem dX6_open_62 : decode cX6_open 62 = .ok (.getfield 95, 3) := by decide +kernel
theorem dX6_open_65 : decode cX6_open 65 = .ok (.ireturn, 1) := by decide +kernel
theorem dX6_close_0 : decode cX6_close 0 = .ok (.aload_n 0, 1) := by decide +kernel
theorem dX6_close_1 : decode cX6_close 1 = .ok (.getfield 95, 3) := by decide +kernel
theorem dX6_close_4 : decode cX6_close 4 = .ok (.ifCond .ne 5, 3) := by decide +kernel
theorem dX6_close_7 : decode cX6_close 7 = .ok (.iconst (-1), 1) := by decide +kernel
theorem dX6_close_8 : decode cX6_close 8 = .ok (.ireturn, 1) := by decide +kernel
theorem dX6_close_9 : decode cX6_close 9 = .ok (.aload_n 0, 1) := by decide +kernel
theorem dX6_close_10 : decode cX6_close 10 = .ok (.dup, 1) := by decide +kernel
theorem dX6_close_11 : decode cX6_close 11 = .ok (.getfield 95, 3) := by decide +kernel
theorem dX6_close_14 : decode cX6_close 14 = .ok (.iconst 1, 1) := by decide +kernel
theorem dX6_close_15 : decode cX6_close 15 = .ok (.isub, 1) := by decide +kernel
theorem dX6_close_16 : decode cX6_close 16 = .ok (.putfield 95, 3) := by decide +kernel
theorem dX6_close_19 : decode cX6_close 19 = .ok (.aload_n 0, 1) := by decide +kernel
theorem dX6_close_20 : decode cX6_close 20 = .ok (.aload_n 0, 1) := by decide +kernel
theorem dX6_close_21 : decode cX6_close 21 = .ok (.getfield 31, 3) := by decide +kernel
theorem dX6_close_24 : decode cX6_close 24 = .ok (.aload_n 0, 1) := by decide +kernel
theorem dX6_close_25 : decode cX6_close 25 = .ok (.getfield 95, 3) := by decide +kernel
theorem dX6_close_28 : decode cX6_close 28 = .ok (.iaload, 1) := by decide +kernel
theorem dX6_close_29 : decode cX6_close 29 = .ok (.putfield 47, 3) := by decide +kernel
theorem dX6_close_32 : decode cX6_close 32 = .ok (.aload_n 0, 1) := by decide +kernel
theorem dX6_close_33 : decode cX6_close 33 = .ok (.aload_n 0, 1) := by decide +kernel
theorem dX6_close_34 : decode cX6_close 34 = .ok (.getfield 34, 3) := by decide +kernel
theorem dX6_close_37 : decode cX6_close 37 = .ok (.aload_n 0, 1) := by decide +kernel
theorem dX6_close_38 : decode cX6_close 38 = .ok (.getfield 95, 3) := by decide +kernel
theorem dX6_close_41 : decode cX6_close 41 = .ok (.iaload, 1) := by decide +kernel
theorem dX6_close_42 : decode cX6_close 42 = .ok (.putfield 65, 3) := by decide +kernel
theorem dX6_close_45 : decode cX6_close 45 = .ok (.aload_n 0, 1) := by decide +kernel
theorem dX6_close_46 : decode cX6_close 46 = .ok (.aload_n 0, 1) := by decide +kernel
theorem dX6_close_47 : decode cX6_close 47 = .ok (.getfield 37, 3) := by decide +kernel
theorem dX6_close_50 : decode cX6_close 50 = .ok (.aload_n 0, 1) := by decide +kernel
theorem dX6_close_51 : decode cX6_close 51 = .ok (.getfield 95, 3) := by decide +kernel
theorem dX6_close_54 : decode cX6_close 54 = .ok (.iaload, 1) := by decide +kernel
theorem dX6_close_55 : decode cX6_close 55 = .ok (.putfield 92, 3) := by decide +kernel
theorem dX6_close_58 : decode cX6_close 58 = .ok (.aload_n 0, 1) := by decide +kernel
theorem dX6_close_59 : decode cX6_close 59 = .ok (.getfield 95, 3) := by decide +kernel
theorem dX6_close_62 : decode cX6_close 62 = .ok (.ireturn, 1) := by decide +kernel
theorem dX6_equal_0 : decode cX6_equal 0 = .ok (.aload_n 0, 1) := by decide +kernel
theorem dX6_equal_1 : decode cX6_equal 1 = .ok (.iload_n 1, 1) := by decide +kernel
theorem dX6_equal_2 : decode cX6_equal 2 = .ok (.invokevirtual 77, 3) := by decide +kernel
theorem dX6_equal_5 : decode cX6_equal 5 = .ok (.ifCond .eq 11, 3) := by decide +kernel
theorem dX6_equal_8 : decode cX6_equal 8 = .ok (.aload_n 0, 1) := by decide +kernel
theorem dX6_equal_9 : decode cX6_equal 9 = .ok (.iload_n 2, 1) := by decide +kernel
theorem dX6_equal_10 : decode cX6_equal 10 = .ok (.invokevirtual 77, 3) := by decide +kernel
theorem dX6_equal_13 : decode cX6_equal 13 = .ok (.ifCond .ne 6, 3) := by decide +kernel
theorem dX6_equal_16 : decode cX6_equal 16 = .ok (.bipush (-2), 2) := by decide +kernel
theorem dX6_equal_18 : decode cX6_equal 18 = .ok (.ireturn, 1) := by decide +kernel
theorem dX6_equal_19 : decode cX6_equal 19 = .ok (.aload_n 0, 1) := by decide +kernel
theorem dX6_equal_20 : decode cX6_equal 20 = .ok (.invokevirtual 85, 3) := by decide +kernel
theorem dX6_equal_23 : decode cX6_equal 23 = .ok (.aload_n 0, 1) := by decide +kernel
theorem dX6_equal_24 : decode cX6_equal 24 = .ok (.iload_n 1, 1) := by decide +kernel
theorem dX6_equal_25 : decode cX6_equal 25 = .ok (.iload_n 2, 1) := by decide +kernel
theorem dX6_equal_26 : decode cX6_equal 26 = .ok (.invokevirtual 74, 3) := by decide +kernel
theorem dX6_equal_29 : decode cX6_equal 29 = .ok (.ifCond .eq 7, 3) := by decide +kernel
theorem dX6_equal_32 : decode cX6_equal 32 = .ok (.iconst 1, 1) := by decide +kernel
theorem dX6_equal_33 : decode cX6_equal 33 = .ok (.goto 4, 3) := by decide +kernel
theorem dX6_equal_36 : decode cX6_equal 36 = .ok (.iconst 0, 1) := by decide +kernel
theorem dX6_equal_37 : decode cX6_equal 37 = .ok (.ireturn, 1) := by decide +kernel
theorem dX6_apart_0 : decode cX6_apart 0 = .ok (.aload_n 0, 1) := by decide +kernel
theorem dX6_apart_1 : decode cX6_apart 1 = .ok (.iload_n 1, 1) := by decide +kernel
theorem dX6_apart_2 : decode cX6_apart 2 = .ok (.invokevirtual 77, 3) := by decide +kernel
theorem dX6_apart_5 : decode cX6_apart 5 = .ok (.ifCond .eq 11, 3) := by decide +kernel
theorem dX6_apart_8 : decode cX6_apart 8 = .ok (.aload_n 0, 1) := by decide +kernel
theorem dX6_apart_9 : decode cX6_apart 9 = .ok (.iload_n 2, 1) := by decide +kernel
theorem dX6_apart_10 : decode cX6_apart 10 = .ok (.invokevirtual 77, 3) := by decide +kernel
theorem dX6_apart_13 : decode cX6_apart 13 = .ok (.ifCond .ne 6, 3) := by decide +kernel
theorem dX6_apart_16 : decode cX6_apart 16 = .ok (.bipush (-2), 2) := by decide +kernel
theorem dX6_apart_18 : decode cX6_apart 18 = .ok (.ireturn, 1) := by decide +kernel
theorem dX6_apart_19 : decode cX6_apart 19 = .ok (.aload_n 0, 1) := by decide +kernel
theorem dX6_apart_20 : decode cX6_apart 20 = .ok (.invokevirtual 85, 3) := by decide +kernel
theorem dX6_apart_23 : decode cX6_apart 23 = .ok (.iconst 0, 1) := by decide +kernel
theorem dX6_apart_24 : decode cX6_apart 24 = .ok (.istore_n 3, 1) := by decide +kernel
theorem dX6_apart_25 : decode cX6_apart 25 = .ok (.iload_n 3, 1) := by decide +kernel
theorem dX6_apart_26 : decode cX6_apart 26 = .ok (.aload_n 0, 1) := by decide +kernel
theorem dX6_apart_27 : decode cX6_apart 27 = .ok (.getfield 92, 3) := by decide +kernel
theorem dX6_apart_30 : decode cX6_apart 30 = .ok (.if_icmp .ge 91, 3) := by decide +kernel
theorem dX6_apart_33 : decode cX6_apart 33 = .ok (.aload_n 0, 1) := by decide +kernel
theorem dX6_apart_34 : decode cX6_apart 34 = .ok (.aload_n 0, 1) := by decide +kernel
theorem dX6_apart_35 : decode cX6_apart 35 = .ok (.getfield 25, 3) := by decide +kernel
theorem dX6_apart_38 : decode cX6_apart 38 = .ok (.iload_n 3, 1) := by decide +kernel
theorem dX6_apart_39 : decode cX6_apart 39 = .ok (.iaload, 1) := by decide +kernel
theorem dX6_apart_40 : decode cX6_apart 40 = .ok (.iload_n 1, 1) := by decide +kernel
theorem dX6_apart_41 : decode cX6_apart 41 = .ok (.invokevirtual 74, 3) := by decide +kernel
theorem dX6_apart_44 : decode cX6_apart 44 = .ok (.ifCond .eq 21, 3) := by decide +kernel
theorem dX6_apart_47 : decode cX6_apart 47 = .ok (.aload_n 0, 1) := by decide +kernel
theorem dX6_apart_48 : decode cX6_apart 48 = .ok (.aload_n 0, 1) := by decide +kernel
theorem dX6_apart_49 : decode cX6_apart 49 = .ok (.getfield 28, 3) := by decide +kernel
theorem dX6_apart_52 : decode cX6_apart 52 = .ok (.iload_n 3, 1) := by decide +kernel
theorem dX6_apart_53 : decode cX6_apart 53 = .ok (.iaload, 1) := by decide +kernel
theorem dX6_apart_54 : decode cX6_apart 54 = .ok (.iload_n 2, 1) := by decide +kernel
theorem dX6_apart_55 : decode cX6_apart 55 = .ok (.invokevirtual 74, 3) := by decide +kernel
theorem dX6_apart_58 : decode cX6_apart 58 = .ok (.ifCond .eq 7, 3) := by decide +kernel
theorem dX6_apart_61 : decode cX6_apart 61 = .ok (.iconst 1, 1) := by decide +kernel
theorem dX6_apart_62 : decode cX6_apart 62 = .ok (.goto 4, 3) := by decide +kernel
theorem dX6_apart_65 : decode cX6_apart 65 = .ok (.iconst 0, 1) := by decide +kernel
theorem dX6_apart_66 : decode cX6_apart 66 = .ok (.istore 4, 2) := by decide +kernel
theorem dX6_apart_68 : decode cX6_apart 68 = .ok (.aload_n 0, 1) := by decide +kernel
theorem dX6_apart_69 : decode cX6_apart 69 = .ok (.aload_n 0, 1) := by decide +kernel
theorem dX6_apart_70 : decode cX6_apart 70 = .ok (.getfield 25, 3) := by decide +kernel
theorem dX6_apart_73 : decode cX6_apart 73 = .ok (.iload_n 3, 1) := by decide +kernel
theorem dX6_apart_74 : decode cX6_apart 74 = .ok (.iaload, 1) := by decide +kernel
theorem dX6_apart_75 : decode cX6_apart 75 = .ok (.iload_n 2, 1) := by decide +kernel
theorem dX6_apart_76 : decode cX6_apart 76 = .ok (.invokevirtual 74, 3) := by decide +kernel
theorem dX6_apart_79 : decode cX6_apart 79 = .ok (.ifCond .eq 21, 3) := by decide +kernel
theorem dX6_apart_82 : decode cX6_apart 82 = .ok (.aload_n 0, 1) := by decide +kernel
theorem dX6_apart_83 : decode cX6_apart 83 = .ok (.aload_n 0, 1) := by decide +kernel
theorem dX6_apart_84 : decode cX6_apart 84 = .ok (.getfield 28, 3) := by decide +kernel
theorem dX6_apart_87 : decode cX6_apart 87 = .ok (.iload_n 3, 1) := by decide +kernel
theorem dX6_apart_88 : decode cX6_apart 88 = .ok (.iaload, 1) := by decide +kernel
theorem dX6_apart_89 : decode cX6_apart 89 = .ok (.iload_n 1, 1) := by decide +kernel
theorem dX6_apart_90 : decode cX6_apart 90 = .ok (.invokevirtual 74, 3) := by decide +kernel
theorem dX6_apart_93 : decode cX6_apart 93 = .ok (.ifCond .eq 7, 3) := by decide +kernel
theorem dX6_apart_96 : decode cX6_apart 96 = .ok (.iconst 1, 1) := by decide +kernel
theorem dX6_apart_97 : decode cX6_apart 97 = .ok (.goto 4, 3) := by decide +kernel
theorem dX6_apart_100 : decode cX6_apart 100 = .ok (.iconst 0, 1) := by decide +kernel
theorem dX6_apart_101 : decode cX6_apart 101 = .ok (.istore 5, 2) := by decide +kernel
theorem dX6_apart_103 : decode cX6_apart 103 = .ok (.iload 4, 2) := by decide +kernel
theorem dX6_apart_105 : decode cX6_apart 105 = .ok (.ifCond .ne 8, 3) := by decide +kernel
theorem dX6_apart_108 : decode cX6_apart 108 = .ok (.iload 5, 2) := by decide +kernel
theorem dX6_apart_110 : decode cX6_apart 110 = .ok (.ifCond .eq 5, 3) := by decide +kernel
theorem dX6_apart_113 : decode cX6_apart 113 = .ok (.iconst 1, 1) := by decide +kernel
theorem dX6_apart_114 : decode cX6_apart 114 = .ok (.ireturn, 1) := by decide +kernel
theorem dX6_apart_115 : decode cX6_apart 115 = .ok (.iinc 3 1, 3) := by decide +kernel
theorem dX6_apart_118 : decode cX6_apart 118 = .ok (.goto (-93), 3) := by decide +kernel
theorem dX6_apart_121 : decode cX6_apart 121 = .ok (.iconst 0, 1) := by decide +kernel
theorem dX6_apart_122 : decode cX6_apart 122 = .ok (.ireturn, 1) := by decide +kernel
theorem dX6_consistent_0 : decode cX6_consistent 0 = .ok (.aload_n 0, 1) := by decide +kernel
theorem dX6_consistent_1 : decode cX6_consistent 1 = .ok (.invokevirtual 85, 3) := by decide +kernel
theorem dX6_consistent_4 : decode cX6_consistent 4 = .ok (.iconst 1, 1) := by decide +kernel
theorem dX6_consistent_5 : decode cX6_consistent 5 = .ok (.istore_n 1, 1) := by decide +kernel
theorem dX6_consistent_6 : decode cX6_consistent 6 = .ok (.iconst 0, 1) := by decide +kernel
theorem dX6_consistent_7 : decode cX6_consistent 7 = .ok (.istore_n 2, 1) := by decide +kernel
end
section
theorem dX6_consistent_8 : decode cX6_consistent 8 = .ok (.iload_n 2, 1) := by decide +kernel
theorem dX6_consistent_9 : decode cX6_consistent 9 = .ok (.aload_n 0, 1) := by decide +kernel
theorem dX6_consistent_10 : decode cX6_consistent 10 = .ok (.getfield 92, 3) := by decide +kernel
theorem dX6_consistent_13 : decode cX6_consistent 13 = .ok (.if_icmp .ge 38, 3) := by decide +kernel
theorem dX6_consistent_16 : decode cX6_consistent 16 = .ok (.iload_n 1, 1) := by decide +kernel
theorem dX6_consistent_17 : decode cX6_consistent 17 = .ok (.ifCond .eq 26, 3) := by decide +kernel
theorem dX6_consistent_20 : decode cX6_consistent 20 = .ok (.aload_n 0, 1) := by decide +kernel
theorem dX6_consistent_21 : decode cX6_consistent 21 = .ok (.aload_n 0, 1) := by decide +kernel
theorem dX6_consistent_22 : decode cX6_consistent 22 = .ok (.getfield 25, 3) := by decide +kernel
theorem dX6_consistent_25 : decode cX6_consistent 25 = .ok (.iload_n 2, 1) := by decide +kernel
theorem dX6_consistent_26 : decode cX6_consistent 26 = .ok (.iaload, 1) := by decide +kernel
theorem dX6_consistent_27 : decode cX6_consistent 27 = .ok (.aload_n 0, 1) := by decide +kernel
theorem dX6_consistent_28 : decode cX6_consistent 28 = .ok (.getfield 28, 3) := by decide +kernel
theorem dX6_consistent_31 : decode cX6_consistent 31 = .ok (.iload_n 2, 1) := by decide +kernel
theorem dX6_consistent_32 : decode cX6_consistent 32 = .ok (.iaload, 1) := by decide +kernel
theorem dX6_consistent_33 : decode cX6_consistent 33 = .ok (.invokevirtual 74, 3) := by decide +kernel
theorem dX6_consistent_36 : decode cX6_consistent 36 = .ok (.ifCond .ne 7, 3) := by decide +kernel
theorem dX6_consistent_39 : decode cX6_consistent 39 = .ok (.iconst 1, 1) := by decide +kernel
theorem dX6_consistent_40 : decode cX6_consistent 40 = .ok (.goto 4, 3) := by decide +kernel
theorem dX6_consistent_43 : decode cX6_consistent 43 = .ok (.iconst 0, 1) := by decide +kernel
theorem dX6_consistent_44 : decode cX6_consistent 44 = .ok (.istore_n 1, 1) := by decide +kernel
theorem dX6_consistent_45 : decode cX6_consistent 45 = .ok (.iinc 2 1, 3) := by decide +kernel
theorem dX6_consistent_48 : decode cX6_consistent 48 = .ok (.goto (-40), 3) := by decide +kernel
theorem dX6_consistent_51 : decode cX6_consistent 51 = .ok (.iload_n 1, 1) := by decide +kernel
theorem dX6_consistent_52 : decode cX6_consistent 52 = .ok (.ireturn, 1) := by decide +kernel
theorem dX6_leader_0 : decode cX6_leader 0 = .ok (.aload_n 0, 1) := by decide +kernel
theorem dX6_leader_1 : decode cX6_leader 1 = .ok (.iload_n 1, 1) := by decide +kernel
theorem dX6_leader_2 : decode cX6_leader 2 = .ok (.invokevirtual 77, 3) := by decide +kernel
theorem dX6_leader_5 : decode cX6_leader 5 = .ok (.ifCond .ne 6, 3) := by decide +kernel
theorem dX6_leader_8 : decode cX6_leader 8 = .ok (.bipush (-2), 2) := by decide +kernel
theorem dX6_leader_10 : decode cX6_leader 10 = .ok (.ireturn, 1) := by decide +kernel
theorem dX6_leader_11 : decode cX6_leader 11 = .ok (.aload_n 0, 1) := by decide +kernel
theorem dX6_leader_12 : decode cX6_leader 12 = .ok (.invokevirtual 85, 3) := by decide +kernel
theorem dX6_leader_15 : decode cX6_leader 15 = .ok (.aload_n 0, 1) := by decide +kernel
theorem dX6_leader_16 : decode cX6_leader 16 = .ok (.getfield 40, 3) := by decide +kernel
theorem dX6_leader_19 : decode cX6_leader 19 = .ok (.iload_n 1, 1) := by decide +kernel
theorem dX6_leader_20 : decode cX6_leader 20 = .ok (.iaload, 1) := by decide +kernel
theorem dX6_leader_21 : decode cX6_leader 21 = .ok (.ireturn, 1) := by decide +kernel
theorem dX6_members_0 : decode cX6_members 0 = .ok (.aload_n 0, 1) := by decide +kernel
theorem dX6_members_1 : decode cX6_members 1 = .ok (.iload_n 1, 1) := by decide +kernel
theorem dX6_members_2 : decode cX6_members 2 = .ok (.invokevirtual 77, 3) := by decide +kernel
theorem dX6_members_5 : decode cX6_members 5 = .ok (.ifCond .ne 6, 3) := by decide +kernel
theorem dX6_members_8 : decode cX6_members 8 = .ok (.bipush (-2), 2) := by decide +kernel
theorem dX6_members_10 : decode cX6_members 10 = .ok (.ireturn, 1) := by decide +kernel
theorem dX6_members_11 : decode cX6_members 11 = .ok (.aload_n 0, 1) := by decide +kernel
theorem dX6_members_12 : decode cX6_members 12 = .ok (.invokevirtual 85, 3) := by decide +kernel
theorem dX6_members_15 : decode cX6_members 15 = .ok (.iconst 0, 1) := by decide +kernel
theorem dX6_members_16 : decode cX6_members 16 = .ok (.istore_n 2, 1) := by decide +kernel
theorem dX6_members_17 : decode cX6_members 17 = .ok (.iconst 0, 1) := by decide +kernel
theorem dX6_members_18 : decode cX6_members 18 = .ok (.istore_n 3, 1) := by decide +kernel
theorem dX6_members_19 : decode cX6_members 19 = .ok (.iload_n 3, 1) := by decide +kernel
theorem dX6_members_20 : decode cX6_members 20 = .ok (.aload_n 0, 1) := by decide +kernel
theorem dX6_members_21 : decode cX6_members 21 = .ok (.getfield 47, 3) := by decide +kernel
theorem dX6_members_24 : decode cX6_members 24 = .ok (.if_icmp .ge 26, 3) := by decide +kernel
theorem dX6_members_27 : decode cX6_members 27 = .ok (.aload_n 0, 1) := by decide +kernel
theorem dX6_members_28 : decode cX6_members 28 = .ok (.iload_n 1, 1) := by decide +kernel
theorem dX6_members_29 : decode cX6_members 29 = .ok (.iload_n 3, 1) := by decide +kernel
theorem dX6_members_30 : decode cX6_members 30 = .ok (.invokevirtual 74, 3) := by decide +kernel
theorem dX6_members_33 : decode cX6_members 33 = .ok (.ifCond .eq 9, 3) := by decide +kernel
theorem dX6_members_36 : decode cX6_members 36 = .ok (.iload_n 2, 1) := by decide +kernel
theorem dX6_members_37 : decode cX6_members 37 = .ok (.iconst 1, 1) := by decide +kernel
theorem dX6_members_38 : decode cX6_members 38 = .ok (.iadd, 1) := by decide +kernel
theorem dX6_members_39 : decode cX6_members 39 = .ok (.goto 4, 3) := by decide +kernel
theorem dX6_members_42 : decode cX6_members 42 = .ok (.iload_n 2, 1) := by decide +kernel
theorem dX6_members_43 : decode cX6_members 43 = .ok (.istore_n 2, 1) := by decide +kernel
theorem dX6_members_44 : decode cX6_members 44 = .ok (.iinc 3 1, 3) := by decide +kernel
theorem dX6_members_47 : decode cX6_members 47 = .ok (.goto (-28), 3) := by decide +kernel
theorem dX6_members_50 : decode cX6_members 50 = .ok (.iload_n 2, 1) := by decide +kernel
theorem dX6_members_51 : decode cX6_members 51 = .ok (.ireturn, 1) := by decide +kernel
theorem dX6_classes_0 : decode cX6_classes 0 = .ok (.aload_n 0, 1) := by decide +kernel
theorem dX6_classes_1 : decode cX6_classes 1 = .ok (.invokevirtual 85, 3) := by decide +kernel
theorem dX6_classes_4 : decode cX6_classes 4 = .ok (.aload_n 0, 1) := by decide +kernel
theorem dX6_classes_5 : decode cX6_classes 5 = .ok (.invokevirtual 88, 3) := by decide +kernel
theorem dX6_classes_8 : decode cX6_classes 8 = .ok (.ireturn, 1) := by decide +kernel
theorem dX6_find_0 : decode cX6_find 0 = .ok (.aload_n 0, 1) := by decide +kernel
theorem dX6_find_1 : decode cX6_find 1 = .ok (.iload_n 1, 1) := by decide +kernel
theorem dX6_find_2 : decode cX6_find 2 = .ok (.iload_n 2, 1) := by decide +kernel
theorem dX6_find_3 : decode cX6_find 3 = .ok (.iload_n 3, 1) := by decide +kernel
theorem dX6_find_4 : decode cX6_find 4 = .ok (.invokevirtual 81, 3) := by decide +kernel
theorem dX6_find_7 : decode cX6_find 7 = .ok (.ifCond .eq 6, 3) := by decide +kernel
theorem dX6_find_10 : decode cX6_find 10 = .ok (.bipush (-2), 2) := by decide +kernel
theorem dX6_find_12 : decode cX6_find 12 = .ok (.ireturn, 1) := by decide +kernel
theorem dX6_find_13 : decode cX6_find 13 = .ok (.aload_n 0, 1) := by decide +kernel
theorem dX6_find_14 : decode cX6_find 14 = .ok (.invokevirtual 85, 3) := by decide +kernel
theorem dX6_find_17 : decode cX6_find 17 = .ok (.iconst 0, 1) := by decide +kernel
theorem dX6_find_18 : decode cX6_find 18 = .ok (.istore 4, 2) := by decide +kernel
theorem dX6_find_20 : decode cX6_find 20 = .ok (.iload 4, 2) := by decide +kernel
theorem dX6_find_22 : decode cX6_find 22 = .ok (.aload_n 0, 1) := by decide +kernel
theorem dX6_find_23 : decode cX6_find 23 = .ok (.getfield 47, 3) := by decide +kernel
theorem dX6_find_26 : decode cX6_find 26 = .ok (.if_icmp .ge 58, 3) := by decide +kernel
theorem dX6_find_29 : decode cX6_find 29 = .ok (.aload_n 0, 1) := by decide +kernel
theorem dX6_find_30 : decode cX6_find 30 = .ok (.getfield 7, 3) := by decide +kernel
theorem dX6_find_33 : decode cX6_find 33 = .ok (.iload 4, 2) := by decide +kernel
theorem dX6_find_35 : decode cX6_find 35 = .ok (.iaload, 1) := by decide +kernel
theorem dX6_find_36 : decode cX6_find 36 = .ok (.iload_n 1, 1) := by decide +kernel
theorem dX6_find_37 : decode cX6_find 37 = .ok (.if_icmp .ne 41, 3) := by decide +kernel
theorem dX6_find_40 : decode cX6_find 40 = .ok (.aload_n 0, 1) := by decide +kernel
theorem dX6_find_41 : decode cX6_find 41 = .ok (.aload_n 0, 1) := by decide +kernel
theorem dX6_find_42 : decode cX6_find 42 = .ok (.getfield 13, 3) := by decide +kernel
theorem dX6_find_45 : decode cX6_find 45 = .ok (.iload 4, 2) := by decide +kernel
theorem dX6_find_47 : decode cX6_find 47 = .ok (.iaload, 1) := by decide +kernel
theorem dX6_find_48 : decode cX6_find 48 = .ok (.iload_n 2, 1) := by decide +kernel
theorem dX6_find_49 : decode cX6_find 49 = .ok (.invokevirtual 51, 3) := by decide +kernel
theorem dX6_find_52 : decode cX6_find 52 = .ok (.ifCond .eq 26, 3) := by decide +kernel
theorem dX6_find_55 : decode cX6_find 55 = .ok (.aload_n 0, 1) := by decide +kernel
theorem dX6_find_56 : decode cX6_find 56 = .ok (.aload_n 0, 1) := by decide +kernel
theorem dX6_find_57 : decode cX6_find 57 = .ok (.getfield 16, 3) := by decide +kernel
theorem dX6_find_60 : decode cX6_find 60 = .ok (.iload 4, 2) := by decide +kernel
theorem dX6_find_62 : decode cX6_find 62 = .ok (.iaload, 1) := by decide +kernel
theorem dX6_find_63 : decode cX6_find 63 = .ok (.iload_n 3, 1) := by decide +kernel
theorem dX6_find_64 : decode cX6_find 64 = .ok (.invokevirtual 51, 3) := by decide +kernel
theorem dX6_find_67 : decode cX6_find 67 = .ok (.ifCond .eq 11, 3) := by decide +kernel
theorem dX6_find_70 : decode cX6_find 70 = .ok (.aload_n 0, 1) := by decide +kernel
theorem dX6_find_71 : decode cX6_find 71 = .ok (.getfield 40, 3) := by decide +kernel
theorem dX6_find_74 : decode cX6_find 74 = .ok (.iload 4, 2) := by decide +kernel
theorem dX6_find_76 : decode cX6_find 76 = .ok (.iaload, 1) := by decide +kernel
theorem dX6_find_77 : decode cX6_find 77 = .ok (.ireturn, 1) := by decide +kernel
theorem dX6_find_78 : decode cX6_find 78 = .ok (.iinc 4 1, 3) := by decide +kernel
theorem dX6_find_81 : decode cX6_find 81 = .ok (.goto (-61), 3) := by decide +kernel
theorem dX6_find_84 : decode cX6_find 84 = .ok (.iconst (-1), 1) := by decide +kernel
theorem dX6_find_85 : decode cX6_find 85 = .ok (.ireturn, 1) := by decide +kernel
theorem dX6_since_0 : decode cX6_since 0 = .ok (.aload_n 0, 1) := by decide +kernel
theorem dX6_since_1 : decode cX6_since 1 = .ok (.iload_n 1, 1) := by decide +kernel
theorem dX6_since_2 : decode cX6_since 2 = .ok (.invokevirtual 77, 3) := by decide +kernel
theorem dX6_since_5 : decode cX6_since 5 = .ok (.ifCond .eq 21, 3) := by decide +kernel
theorem dX6_since_8 : decode cX6_since 8 = .ok (.aload_n 0, 1) := by decide +kernel
theorem dX6_since_9 : decode cX6_since 9 = .ok (.iload_n 2, 1) := by decide +kernel
theorem dX6_since_10 : decode cX6_since 10 = .ok (.invokevirtual 77, 3) := by decide +kernel
theorem dX6_since_13 : decode cX6_since 13 = .ok (.ifCond .eq 13, 3) := by decide +kernel
theorem dX6_since_16 : decode cX6_since 16 = .ok (.aload_n 0, 1) := by decide +kernel
theorem dX6_since_17 : decode cX6_since 17 = .ok (.iconst 0, 1) := by decide +kernel
theorem dX6_since_18 : decode cX6_since 18 = .ok (.iload_n 1, 1) := by decide +kernel
theorem dX6_since_19 : decode cX6_since 19 = .ok (.iload_n 2, 1) := by decide +kernel
theorem dX6_since_20 : decode cX6_since 20 = .ok (.invokevirtual 98, 3) := by decide +kernel
theorem dX6_since_23 : decode cX6_since 23 = .ok (.goto 5, 3) := by decide +kernel
theorem dX6_since_26 : decode cX6_since 26 = .ok (.bipush (-2), 2) := by decide +kernel
theorem dX6_since_28 : decode cX6_since 28 = .ok (.ireturn, 1) := by decide +kernel
theorem dX6_explanation_0 : decode cX6_explanation 0 = .ok (.aload_n 0, 1) := by decide +kernel
theorem dX6_explanation_1 : decode cX6_explanation 1 = .ok (.iload_n 1, 1) := by decide +kernel
theorem dX6_explanation_2 : decode cX6_explanation 2 = .ok (.invokevirtual 77, 3) := by decide +kernel
theorem dX6_explanation_5 : decode cX6_explanation 5 = .ok (.ifCond .eq 11, 3) := by decide +kernel
theorem dX6_explanation_8 : decode cX6_explanation 8 = .ok (.aload_n 0, 1) := by decide +kernel
theorem dX6_explanation_9 : decode cX6_explanation 9 = .ok (.iload_n 2, 1) := by decide +kernel
theorem dX6_explanation_10 : decode cX6_explanation 10 = .ok (.invokevirtual 77, 3) := by decide +kernel
theorem dX6_explanation_13 : decode cX6_explanation 13 = .ok (.ifCond .ne 6, 3) := by decide +kernel
theorem dX6_explanation_16 : decode cX6_explanation 16 = .ok (.bipush (-2), 2) := by decide +kernel
theorem dX6_explanation_18 : decode cX6_explanation 18 = .ok (.ireturn, 1) := by decide +kernel
theorem dX6_explanation_19 : decode cX6_explanation 19 = .ok (.iconst 0, 1) := by decide +kernel
theorem dX6_explanation_20 : decode cX6_explanation 20 = .ok (.istore_n 3, 1) := by decide +kernel
theorem dX6_explanation_21 : decode cX6_explanation 21 = .ok (.aload_n 0, 1) := by decide +kernel
theorem dX6_explanation_22 : decode cX6_explanation 22 = .ok (.iconst 0, 1) := by decide +kernel
theorem dX6_explanation_23 : decode cX6_explanation 23 = .ok (.iload_n 1, 1) := by decide +kernel
theorem dX6_explanation_24 : decode cX6_explanation 24 = .ok (.iload_n 2, 1) := by decide +kernel
theorem dX6_explanation_25 : decode cX6_explanation 25 = .ok (.invokevirtual 98, 3) := by decide +kernel
theorem dX6_explanation_28 : decode cX6_explanation 28 = .ok (.istore 4, 2) := by decide +kernel
theorem dX6_explanation_30 : decode cX6_explanation 30 = .ok (.iload 4, 2) := by decide +kernel
theorem dX6_explanation_32 : decode cX6_explanation 32 = .ok (.ifCond .ge 5, 3) := by decide +kernel
theorem dX6_explanation_35 : decode cX6_explanation 35 = .ok (.iconst (-1), 1) := by decide +kernel
theorem dX6_explanation_36 : decode cX6_explanation 36 = .ok (.ireturn, 1) := by decide +kernel
theorem dX6_explanation_37 : decode cX6_explanation 37 = .ok (.iload 4, 2) := by decide +kernel
theorem dX6_explanation_39 : decode cX6_explanation 39 = .ok (.ifCond .le 24, 3) := by decide +kernel
theorem dX6_explanation_42 : decode cX6_explanation 42 = .ok (.iload_n 3, 1) := by decide +kernel
theorem dX6_explanation_43 : decode cX6_explanation 43 = .ok (.iconst 1, 1) := by decide +kernel
theorem dX6_explanation_44 : decode cX6_explanation 44 = .ok (.iload 4, 2) := by decide +kernel
theorem dX6_explanation_46 : decode cX6_explanation 46 = .ok (.iconst 1, 1) := by decide +kernel
theorem dX6_explanation_47 : decode cX6_explanation 47 = .ok (.isub, 1) := by decide +kernel
theorem dX6_explanation_48 : decode cX6_explanation 48 = .ok (.ishl, 1) := by decide +kernel
theorem dX6_explanation_49 : decode cX6_explanation 49 = .ok (.ior, 1) := by decide +kernel
theorem dX6_explanation_50 : decode cX6_explanation 50 = .ok (.istore_n 3, 1) := by decide +kernel
theorem dX6_explanation_51 : decode cX6_explanation 51 = .ok (.aload_n 0, 1) := by decide +kernel
theorem dX6_explanation_52 : decode cX6_explanation 52 = .ok (.iload_n 3, 1) := by decide +kernel
theorem dX6_explanation_53 : decode cX6_explanation 53 = .ok (.iload_n 1, 1) := by decide +kernel
theorem dX6_explanation_54 : decode cX6_explanation 54 = .ok (.iload_n 2, 1) := by decide +kernel
theorem dX6_explanation_55 : decode cX6_explanation 55 = .ok (.invokevirtual 98, 3) := by decide +kernel
theorem dX6_explanation_58 : decode cX6_explanation 58 = .ok (.istore 4, 2) := by decide +kernel
theorem dX6_explanation_60 : decode cX6_explanation 60 = .ok (.goto (-23), 3) := by decide +kernel
theorem dX6_explanation_63 : decode cX6_explanation 63 = .ok (.iload_n 3, 1) := by decide +kernel
theorem dX6_explanation_64 : decode cX6_explanation 64 = .ok (.ireturn, 1) := by decide +kernel
theorem dX6_needed_0 : decode cX6_needed 0 = .ok (.aload_n 0, 1) := by decide +kernel
theorem dX6_needed_1 : decode cX6_needed 1 = .ok (.iload_n 1, 1) := by decide +kernel
theorem dX6_needed_2 : decode cX6_needed 2 = .ok (.invokevirtual 77, 3) := by decide +kernel
theorem dX6_needed_5 : decode cX6_needed 5 = .ok (.ifCond .eq 11, 3) := by decide +kernel
theorem dX6_needed_8 : decode cX6_needed 8 = .ok (.aload_n 0, 1) := by decide +kernel
theorem dX6_needed_9 : decode cX6_needed 9 = .ok (.iload_n 2, 1) := by decide +kernel
theorem dX6_needed_10 : decode cX6_needed 10 = .ok (.invokevirtual 77, 3) := by decide +kernel
theorem dX6_needed_13 : decode cX6_needed 13 = .ok (.ifCond .ne 6, 3) := by decide +kernel
theorem dX6_needed_16 : decode cX6_needed 16 = .ok (.bipush (-2), 2) := by decide +kernel
theorem dX6_needed_18 : decode cX6_needed 18 = .ok (.ireturn, 1) := by decide +kernel
theorem dX6_needed_19 : decode cX6_needed 19 = .ok (.aload_n 0, 1) := by decide +kernel
theorem dX6_needed_20 : decode cX6_needed 20 = .ok (.invokevirtual 85, 3) := by decide +kernel
theorem dX6_needed_23 : decode cX6_needed 23 = .ok (.aload_n 0, 1) := by decide +kernel
theorem dX6_needed_24 : decode cX6_needed 24 = .ok (.iload_n 1, 1) := by decide +kernel
theorem dX6_needed_25 : decode cX6_needed 25 = .ok (.iload_n 2, 1) := by decide +kernel
theorem dX6_needed_26 : decode cX6_needed 26 = .ok (.invokevirtual 74, 3) := by decide +kernel
theorem dX6_needed_29 : decode cX6_needed 29 = .ok (.ifCond .ne 5, 3) := by decide +kernel
theorem dX6_needed_32 : decode cX6_needed 32 = .ok (.iconst (-1), 1) := by decide +kernel
theorem dX6_needed_33 : decode cX6_needed 33 = .ok (.ireturn, 1) := by decide +kernel
theorem dX6_needed_34 : decode cX6_needed 34 = .ok (.iconst 1, 1) := by decide +kernel
theorem dX6_needed_35 : decode cX6_needed 35 = .ok (.aload_n 0, 1) := by decide +kernel
theorem dX6_needed_36 : decode cX6_needed 36 = .ok (.getfield 65, 3) := by decide +kernel
theorem dX6_needed_39 : decode cX6_needed 39 = .ok (.ishl, 1) := by decide +kernel
theorem dX6_needed_40 : decode cX6_needed 40 = .ok (.iconst 1, 1) := by decide +kernel
theorem dX6_needed_41 : decode cX6_needed 41 = .ok (.isub, 1) := by decide +kernel
theorem dX6_needed_42 : decode cX6_needed 42 = .ok (.istore_n 3, 1) := by decide +kernel
theorem dX6_needed_43 : decode cX6_needed 43 = .ok (.iconst 0, 1) := by decide +kernel
theorem dX6_needed_44 : decode cX6_needed 44 = .ok (.istore 4, 2) := by decide +kernel
theorem dX6_needed_46 : decode cX6_needed 46 = .ok (.iconst 0, 1) := by decide +kernel
theorem dX6_needed_47 : decode cX6_needed 47 = .ok (.istore 5, 2) := by decide +kernel
theorem dX6_needed_49 : decode cX6_needed 49 = .ok (.iload 5, 2) := by decide +kernel
theorem dX6_needed_51 : decode cX6_needed 51 = .ok (.aload_n 0, 1) := by decide +kernel
theorem dX6_needed_52 : decode cX6_needed 52 = .ok (.getfield 65, 3) := by decide +kernel
theorem dX6_needed_55 : decode cX6_needed 55 = .ok (.if_icmp .ge 45, 3) := by decide +kernel
theorem dX6_needed_58 : decode cX6_needed 58 = .ok (.aload_n 0, 1) := by decide +kernel
theorem dX6_needed_59 : decode cX6_needed 59 = .ok (.iload_n 3, 1) := by decide +kernel
theorem dX6_needed_60 : decode cX6_needed 60 = .ok (.iconst 1, 1) := by decide +kernel
theorem dX6_needed_61 : decode cX6_needed 61 = .ok (.iload 5, 2) := by decide +kernel
theorem dX6_needed_63 : decode cX6_needed 63 = .ok (.ishl, 1) := by decide +kernel
theorem dX6_needed_64 : decode cX6_needed 64 = .ok (.iconst (-1), 1) := by decide +kernel
theorem dX6_needed_65 : decode cX6_needed 65 = .ok (.ixor, 1) := by decide +kernel
theorem dX6_needed_66 : decode cX6_needed 66 = .ok (.iand, 1) := by decide +kernel
theorem dX6_needed_67 : decode cX6_needed 67 = .ok (.iconst 0, 1) := by decide +kernel
theorem dX6_needed_68 : decode cX6_needed 68 = .ok (.invokevirtual 71, 3) := by decide +kernel
theorem dX6_needed_71 : decode cX6_needed 71 = .ok (.aload_n 0, 1) := by decide +kernel
theorem dX6_needed_72 : decode cX6_needed 72 = .ok (.iload_n 1, 1) := by decide +kernel
theorem dX6_needed_73 : decode cX6_needed 73 = .ok (.iload_n 2, 1) := by decide +kernel
theorem dX6_needed_74 : decode cX6_needed 74 = .ok (.invokevirtual 74, 3) := by decide +kernel
theorem dX6_needed_77 : decode cX6_needed 77 = .ok (.ifCond .eq 8, 3) := by decide +kernel
theorem dX6_needed_80 : decode cX6_needed 80 = .ok (.iload 4, 2) := by decide +kernel
theorem dX6_needed_82 : decode cX6_needed 82 = .ok (.goto 10, 3) := by decide +kernel
theorem dX6_needed_85 : decode cX6_needed 85 = .ok (.iload 4, 2) := by decide +kernel
theorem dX6_needed_87 : decode cX6_needed 87 = .ok (.iconst 1, 1) := by decide +kernel
theorem dX6_needed_88 : decode cX6_needed 88 = .ok (.iload 5, 2) := by decide +kernel
theorem dX6_needed_90 : decode cX6_needed 90 = .ok (.ishl, 1) := by decide +kernel
theorem dX6_needed_91 : decode cX6_needed 91 = .ok (.ior, 1) := by decide +kernel
theorem dX6_needed_92 : decode cX6_needed 92 = .ok (.istore 4, 2) := by decide +kernel
theorem dX6_needed_94 : decode cX6_needed 94 = .ok (.iinc 5 1, 3) := by decide +kernel
theorem dX6_needed_97 : decode cX6_needed 97 = .ok (.goto (-48), 3) := by decide +kernel
theorem dX6_needed_100 : decode cX6_needed 100 = .ok (.iload 4, 2) := by decide +kernel
theorem dX6_needed_102 : decode cX6_needed 102 = .ok (.ireturn, 1) := by decide +kernel
theorem dX6_argument_0 : decode cX6_argument 0 = .ok (.iload_n 1, 1) := by decide +kernel
theorem dX6_argument_1 : decode cX6_argument 1 = .ok (.ifCond .ge 7, 3) := by decide +kernel
theorem dX6_argument_4 : decode cX6_argument 4 = .ok (.lconst 0, 1) := by decide +kernel
theorem dX6_argument_5 : decode cX6_argument 5 = .ok (.goto 14, 3) := by decide +kernel
theorem dX6_argument_8 : decode cX6_argument 8 = .ok (.aload_n 0, 1) := by decide +kernel
theorem dX6_argument_9 : decode cX6_argument 9 = .ok (.getfield 43, 3) := by decide +kernel
theorem dX6_argument_12 : decode cX6_argument 12 = .ok (.aload_n 0, 1) := by decide +kernel
theorem dX6_argument_13 : decode cX6_argument 13 = .ok (.getfield 40, 3) := by decide +kernel
theorem dX6_argument_16 : decode cX6_argument 16 = .ok (.iload_n 1, 1) := by decide +kernel
theorem dX6_argument_17 : decode cX6_argument 17 = .ok (.iaload, 1) := by decide +kernel
theorem dX6_argument_18 : decode cX6_argument 18 = .ok (.laload, 1) := by decide +kernel
theorem dX6_argument_19 : decode cX6_argument 19 = .ok (.lreturn, 1) := by decide +kernel
theorem dX6_sum_0 : decode cX6_sum 0 = .ok (.aload_n 0, 1) := by decide +kernel
theorem dX6_sum_1 : decode cX6_sum 1 = .ok (.getfield 13, 3) := by decide +kernel
theorem dX6_sum_4 : decode cX6_sum 4 = .ok (.iload_n 1, 1) := by decide +kernel
theorem dX6_sum_5 : decode cX6_sum 5 = .ok (.iaload, 1) := by decide +kernel
theorem dX6_sum_6 : decode cX6_sum 6 = .ok (.istore_n 2, 1) := by decide +kernel
theorem dX6_sum_7 : decode cX6_sum 7 = .ok (.aload_n 0, 1) := by decide +kernel
theorem dX6_sum_8 : decode cX6_sum 8 = .ok (.getfield 16, 3) := by decide +kernel
theorem dX6_sum_11 : decode cX6_sum 11 = .ok (.iload_n 1, 1) := by decide +kernel
theorem dX6_sum_12 : decode cX6_sum 12 = .ok (.iaload, 1) := by decide +kernel
theorem dX6_sum_13 : decode cX6_sum 13 = .ok (.istore_n 3, 1) := by decide +kernel
theorem dX6_sum_14 : decode cX6_sum 14 = .ok (.iload_n 2, 1) := by decide +kernel
theorem dX6_sum_15 : decode cX6_sum 15 = .ok (.ifCond .lt 13, 3) := by decide +kernel
theorem dX6_sum_18 : decode cX6_sum 18 = .ok (.aload_n 0, 1) := by decide +kernel
theorem dX6_sum_19 : decode cX6_sum 19 = .ok (.iload_n 2, 1) := by decide +kernel
theorem dX6_sum_20 : decode cX6_sum 20 = .ok (.invokevirtual 102, 3) := by decide +kernel
theorem dX6_sum_23 : decode cX6_sum 23 = .ok (.lconst 0, 1) := by decide +kernel
theorem dX6_sum_24 : decode cX6_sum 24 = .ok (.lcmp, 1) := by decide +kernel
theorem dX6_sum_25 : decode cX6_sum 25 = .ok (.ifCond .eq 17, 3) := by decide +kernel
theorem dX6_sum_28 : decode cX6_sum 28 = .ok (.iload_n 3, 1) := by decide +kernel
theorem dX6_sum_29 : decode cX6_sum 29 = .ok (.ifCond .lt 17, 3) := by decide +kernel
theorem dX6_sum_32 : decode cX6_sum 32 = .ok (.aload_n 0, 1) := by decide +kernel
theorem dX6_sum_33 : decode cX6_sum 33 = .ok (.iload_n 3, 1) := by decide +kernel
theorem dX6_sum_34 : decode cX6_sum 34 = .ok (.invokevirtual 102, 3) := by decide +kernel
theorem dX6_sum_37 : decode cX6_sum 37 = .ok (.lconst 0, 1) := by decide +kernel
theorem dX6_sum_38 : decode cX6_sum 38 = .ok (.lcmp, 1) := by decide +kernel
theorem dX6_sum_39 : decode cX6_sum 39 = .ok (.ifCond .ne 7, 3) := by decide +kernel
theorem dX6_sum_42 : decode cX6_sum 42 = .ok (.iconst 1, 1) := by decide +kernel
theorem dX6_sum_43 : decode cX6_sum 43 = .ok (.goto 4, 3) := by decide +kernel
theorem dX6_sum_46 : decode cX6_sum 46 = .ok (.iconst 0, 1) := by decide +kernel
theorem dX6_sum_47 : decode cX6_sum 47 = .ok (.istore 4, 2) := by decide +kernel
theorem dX6_sum_49 : decode cX6_sum 49 = .ok (.iload 4, 2) := by decide +kernel
theorem dX6_sum_51 : decode cX6_sum 51 = .ok (.ifCond .eq 7, 3) := by decide +kernel
theorem dX6_sum_54 : decode cX6_sum 54 = .ok (.lconst 0, 1) := by decide +kernel
theorem dX6_sum_55 : decode cX6_sum 55 = .ok (.goto 16, 3) := by decide +kernel
theorem dX6_sum_58 : decode cX6_sum 58 = .ok (.lconst 1, 1) := by decide +kernel
theorem dX6_sum_59 : decode cX6_sum 59 = .ok (.aload_n 0, 1) := by decide +kernel
theorem dX6_sum_60 : decode cX6_sum 60 = .ok (.iload_n 2, 1) := by decide +kernel
theorem dX6_sum_61 : decode cX6_sum 61 = .ok (.invokevirtual 102, 3) := by decide +kernel
theorem dX6_sum_64 : decode cX6_sum 64 = .ok (.ladd, 1) := by decide +kernel
theorem dX6_sum_65 : decode cX6_sum 65 = .ok (.aload_n 0, 1) := by decide +kernel
theorem dX6_sum_66 : decode cX6_sum 66 = .ok (.iload_n 3, 1) := by decide +kernel
theorem dX6_sum_67 : decode cX6_sum 67 = .ok (.invokevirtual 102, 3) := by decide +kernel
theorem dX6_sum_70 : decode cX6_sum 70 = .ok (.ladd, 1) := by decide +kernel
theorem dX6_sum_71 : decode cX6_sum 71 = .ok (.lreturn, 1) := by decide +kernel
theorem dX6_weigh_0 : decode cX6_weigh 0 = .ok (.aload_n 0, 1) := by decide +kernel
theorem dX6_weigh_1 : decode cX6_weigh 1 = .ok (.invokevirtual 85, 3) := by decide +kernel
theorem dX6_weigh_4 : decode cX6_weigh 4 = .ok (.iconst 0, 1) := by decide +kernel
theorem dX6_weigh_5 : decode cX6_weigh 5 = .ok (.istore_n 1, 1) := by decide +kernel
theorem dX6_weigh_6 : decode cX6_weigh 6 = .ok (.iload_n 1, 1) := by decide +kernel
theorem dX6_weigh_7 : decode cX6_weigh 7 = .ok (.aload_n 0, 1) := by decide +kernel
theorem dX6_weigh_8 : decode cX6_weigh 8 = .ok (.getfield 47, 3) := by decide +kernel
theorem dX6_weigh_11 : decode cX6_weigh 11 = .ok (.if_icmp .ge 16, 3) := by decide +kernel
theorem dX6_weigh_14 : decode cX6_weigh 14 = .ok (.aload_n 0, 1) := by decide +kernel
theorem dX6_weigh_15 : decode cX6_weigh 15 = .ok (.getfield 43, 3) := by decide +kernel
theorem dX6_weigh_18 : decode cX6_weigh 18 = .ok (.iload_n 1, 1) := by decide +kernel
theorem dX6_weigh_19 : decode cX6_weigh 19 = .ok (.lconst 0, 1) := by decide +kernel
theorem dX6_weigh_20 : decode cX6_weigh 20 = .ok (.lastore, 1) := by decide +kernel
theorem dX6_weigh_21 : decode cX6_weigh 21 = .ok (.iinc 1 1, 3) := by decide +kernel
theorem dX6_weigh_24 : decode cX6_weigh 24 = .ok (.goto (-18), 3) := by decide +kernel
theorem dX6_weigh_27 : decode cX6_weigh 27 = .ok (.iconst 1, 1) := by decide +kernel
theorem dX6_weigh_28 : decode cX6_weigh 28 = .ok (.istore_n 1, 1) := by decide +kernel
theorem dX6_weigh_29 : decode cX6_weigh 29 = .ok (.iconst 0, 1) := by decide +kernel
theorem dX6_weigh_30 : decode cX6_weigh 30 = .ok (.istore_n 2, 1) := by decide +kernel
theorem dX6_weigh_31 : decode cX6_weigh 31 = .ok (.iload_n 2, 1) := by decide +kernel
theorem dX6_weigh_32 : decode cX6_weigh 32 = .ok (.bipush 100, 2) := by decide +kernel
theorem dX6_weigh_34 : decode cX6_weigh 34 = .ok (.if_icmp .ge 89, 3) := by decide +kernel
theorem dX6_weigh_37 : decode cX6_weigh 37 = .ok (.iload_n 1, 1) := by decide +kernel
theorem dX6_weigh_38 : decode cX6_weigh 38 = .ok (.ifCond .eq 85, 3) := by decide +kernel
theorem dX6_weigh_41 : decode cX6_weigh 41 = .ok (.iconst 0, 1) := by decide +kernel
theorem dX6_weigh_42 : decode cX6_weigh 42 = .ok (.istore_n 1, 1) := by decide +kernel
theorem dX6_weigh_43 : decode cX6_weigh 43 = .ok (.iconst 0, 1) := by decide +kernel
theorem dX6_weigh_44 : decode cX6_weigh 44 = .ok (.istore_n 3, 1) := by decide +kernel
theorem dX6_weigh_45 : decode cX6_weigh 45 = .ok (.iload_n 3, 1) := by decide +kernel
theorem dX6_weigh_46 : decode cX6_weigh 46 = .ok (.aload_n 0, 1) := by decide +kernel
theorem dX6_weigh_47 : decode cX6_weigh 47 = .ok (.getfield 47, 3) := by decide +kernel
theorem dX6_weigh_50 : decode cX6_weigh 50 = .ok (.if_icmp .ge 67, 3) := by decide +kernel
theorem dX6_weigh_53 : decode cX6_weigh 53 = .ok (.aload_n 0, 1) := by decide +kernel
theorem dX6_weigh_54 : decode cX6_weigh 54 = .ok (.iload_n 3, 1) := by decide +kernel
theorem dX6_weigh_55 : decode cX6_weigh 55 = .ok (.invokevirtual 106, 3) := by decide +kernel
theorem dX6_weigh_58 : decode cX6_weigh 58 = .ok (.lstore 4, 2) := by decide +kernel
theorem dX6_weigh_60 : decode cX6_weigh 60 = .ok (.aload_n 0, 1) := by decide +kernel
theorem dX6_weigh_61 : decode cX6_weigh 61 = .ok (.getfield 40, 3) := by decide +kernel
theorem dX6_weigh_64 : decode cX6_weigh 64 = .ok (.iload_n 3, 1) := by decide +kernel
theorem dX6_weigh_65 : decode cX6_weigh 65 = .ok (.iaload, 1) := by decide +kernel
theorem dX6_weigh_66 : decode cX6_weigh 66 = .ok (.istore 6, 2) := by decide +kernel
theorem dX6_weigh_68 : decode cX6_weigh 68 = .ok (.lload 4, 2) := by decide +kernel
theorem dX6_weigh_70 : decode cX6_weigh 70 = .ok (.lconst 0, 1) := by decide +kernel
theorem dX6_weigh_71 : decode cX6_weigh 71 = .ok (.lcmp, 1) := by decide +kernel
theorem dX6_weigh_72 : decode cX6_weigh 72 = .ok (.ifCond .le 39, 3) := by decide +kernel
theorem dX6_weigh_75 : decode cX6_weigh 75 = .ok (.aload_n 0, 1) := by decide +kernel
theorem dX6_weigh_76 : decode cX6_weigh 76 = .ok (.getfield 43, 3) := by decide +kernel
theorem dX6_weigh_79 : decode cX6_weigh 79 = .ok (.iload 6, 2) := by decide +kernel
theorem dX6_weigh_81 : decode cX6_weigh 81 = .ok (.laload, 1) := by decide +kernel
theorem dX6_weigh_82 : decode cX6_weigh 82 = .ok (.lconst 0, 1) := by decide +kernel
theorem dX6_weigh_83 : decode cX6_weigh 83 = .ok (.lcmp, 1) := by decide +kernel
theorem dX6_weigh_84 : decode cX6_weigh 84 = .ok (.ifCond .eq 16, 3) := by decide +kernel
theorem dX6_weigh_87 : decode cX6_weigh 87 = .ok (.lload 4, 2) := by decide +kernel
theorem dX6_weigh_89 : decode cX6_weigh 89 = .ok (.aload_n 0, 1) := by decide +kernel
theorem dX6_weigh_90 : decode cX6_weigh 90 = .ok (.getfield 43, 3) := by decide +kernel
theorem dX6_weigh_93 : decode cX6_weigh 93 = .ok (.iload 6, 2) := by decide +kernel
theorem dX6_weigh_95 : decode cX6_weigh 95 = .ok (.laload, 1) := by decide +kernel
theorem dX6_weigh_96 : decode cX6_weigh 96 = .ok (.lcmp, 1) := by decide +kernel
theorem dX6_weigh_97 : decode cX6_weigh 97 = .ok (.ifCond .ge 14, 3) := by decide +kernel
theorem dX6_weigh_100 : decode cX6_weigh 100 = .ok (.aload_n 0, 1) := by decide +kernel
theorem dX6_weigh_101 : decode cX6_weigh 101 = .ok (.getfield 43, 3) := by decide +kernel
theorem dX6_weigh_104 : decode cX6_weigh 104 = .ok (.iload 6, 2) := by decide +kernel
theorem dX6_weigh_106 : decode cX6_weigh 106 = .ok (.lload 4, 2) := by decide +kernel
theorem dX6_weigh_108 : decode cX6_weigh 108 = .ok (.lastore, 1) := by decide +kernel
theorem dX6_weigh_109 : decode cX6_weigh 109 = .ok (.iconst 1, 1) := by decide +kernel
theorem dX6_weigh_110 : decode cX6_weigh 110 = .ok (.istore_n 1, 1) := by decide +kernel
theorem dX6_weigh_111 : decode cX6_weigh 111 = .ok (.iinc 3 1, 3) := by decide +kernel
theorem dX6_weigh_114 : decode cX6_weigh 114 = .ok (.goto (-69), 3) := by decide +kernel
theorem dX6_weigh_117 : decode cX6_weigh 117 = .ok (.iinc 2 1, 3) := by decide +kernel
theorem dX6_weigh_120 : decode cX6_weigh 120 = .ok (.goto (-89), 3) := by decide +kernel
theorem dX6_weigh_123 : decode cX6_weigh 123 = .ok (.return_, 1) := by decide +kernel
theorem dX6_bestOf_0 : decode cX6_bestOf 0 = .ok (.aload_n 0, 1) := by decide +kernel
theorem dX6_bestOf_1 : decode cX6_bestOf 1 = .ok (.getfield 40, 3) := by decide +kernel
theorem dX6_bestOf_4 : decode cX6_bestOf 4 = .ok (.iload_n 1, 1) := by decide +kernel
theorem dX6_bestOf_5 : decode cX6_bestOf 5 = .ok (.iaload, 1) := by decide +kernel
theorem dX6_bestOf_6 : decode cX6_bestOf 6 = .ok (.istore_n 2, 1) := by decide +kernel
theorem dX6_bestOf_7 : decode cX6_bestOf 7 = .ok (.iconst 0, 1) := by decide +kernel
theorem dX6_bestOf_8 : decode cX6_bestOf 8 = .ok (.istore_n 3, 1) := by decide +kernel
theorem dX6_bestOf_9 : decode cX6_bestOf 9 = .ok (.iload_n 3, 1) := by decide +kernel
theorem dX6_bestOf_10 : decode cX6_bestOf 10 = .ok (.aload_n 0, 1) := by decide +kernel
theorem dX6_bestOf_11 : decode cX6_bestOf 11 = .ok (.getfield 47, 3) := by decide +kernel
theorem dX6_bestOf_14 : decode cX6_bestOf 14 = .ok (.if_icmp .ge 36, 3) := by decide +kernel
theorem dX6_bestOf_17 : decode cX6_bestOf 17 = .ok (.aload_n 0, 1) := by decide +kernel
theorem dX6_bestOf_18 : decode cX6_bestOf 18 = .ok (.getfield 40, 3) := by decide +kernel
theorem dX6_bestOf_21 : decode cX6_bestOf 21 = .ok (.iload_n 3, 1) := by decide +kernel
theorem dX6_bestOf_22 : decode cX6_bestOf 22 = .ok (.iaload, 1) := by decide +kernel
theorem dX6_bestOf_23 : decode cX6_bestOf 23 = .ok (.iload_n 2, 1) := by decide +kernel
theorem dX6_bestOf_24 : decode cX6_bestOf 24 = .ok (.if_icmp .ne 20, 3) := by decide +kernel
theorem dX6_bestOf_27 : decode cX6_bestOf 27 = .ok (.aload_n 0, 1) := by decide +kernel
theorem dX6_bestOf_28 : decode cX6_bestOf 28 = .ok (.iload_n 3, 1) := by decide +kernel
theorem dX6_bestOf_29 : decode cX6_bestOf 29 = .ok (.invokevirtual 106, 3) := by decide +kernel
theorem dX6_bestOf_32 : decode cX6_bestOf 32 = .ok (.aload_n 0, 1) := by decide +kernel
theorem dX6_bestOf_33 : decode cX6_bestOf 33 = .ok (.getfield 43, 3) := by decide +kernel
theorem dX6_bestOf_36 : decode cX6_bestOf 36 = .ok (.iload_n 2, 1) := by decide +kernel
theorem dX6_bestOf_37 : decode cX6_bestOf 37 = .ok (.laload, 1) := by decide +kernel
theorem dX6_bestOf_38 : decode cX6_bestOf 38 = .ok (.lcmp, 1) := by decide +kernel
theorem dX6_bestOf_39 : decode cX6_bestOf 39 = .ok (.ifCond .ne 5, 3) := by decide +kernel
theorem dX6_bestOf_42 : decode cX6_bestOf 42 = .ok (.iload_n 3, 1) := by decide +kernel
theorem dX6_bestOf_43 : decode cX6_bestOf 43 = .ok (.ireturn, 1) := by decide +kernel
theorem dX6_bestOf_44 : decode cX6_bestOf 44 = .ok (.iinc 3 1, 3) := by decide +kernel
theorem dX6_bestOf_47 : decode cX6_bestOf 47 = .ok (.goto (-38), 3) := by decide +kernel
theorem dX6_bestOf_50 : decode cX6_bestOf 50 = .ok (.iconst (-1), 1) := by decide +kernel
theorem dX6_bestOf_51 : decode cX6_bestOf 51 = .ok (.ireturn, 1) := by decide +kernel
theorem dX6_weight_0 : decode cX6_weight 0 = .ok (.aload_n 0, 1) := by decide +kernel
theorem dX6_weight_1 : decode cX6_weight 1 = .ok (.iload_n 1, 1) := by decide +kernel
theorem dX6_weight_2 : decode cX6_weight 2 = .ok (.invokevirtual 77, 3) := by decide +kernel
theorem dX6_weight_5 : decode cX6_weight 5 = .ok (.ifCond .ne 5, 3) := by decide +kernel
theorem dX6_weight_8 : decode cX6_weight 8 = .ok (.lconst 0, 1) := by decide +kernel
theorem dX6_weight_9 : decode cX6_weight 9 = .ok (.lreturn, 1) := by decide +kernel
theorem dX6_weight_10 : decode cX6_weight 10 = .ok (.aload_n 0, 1) := by decide +kernel
theorem dX6_weight_11 : decode cX6_weight 11 = .ok (.invokevirtual 109, 3) := by decide +kernel
theorem dX6_weight_14 : decode cX6_weight 14 = .ok (.aload_n 0, 1) := by decide +kernel
theorem dX6_weight_15 : decode cX6_weight 15 = .ok (.getfield 43, 3) := by decide +kernel
theorem dX6_weight_18 : decode cX6_weight 18 = .ok (.aload_n 0, 1) := by decide +kernel
theorem dX6_weight_19 : decode cX6_weight 19 = .ok (.getfield 40, 3) := by decide +kernel
theorem dX6_weight_22 : decode cX6_weight 22 = .ok (.iload_n 1, 1) := by decide +kernel
theorem dX6_weight_23 : decode cX6_weight 23 = .ok (.iaload, 1) := by decide +kernel
theorem dX6_weight_24 : decode cX6_weight 24 = .ok (.laload, 1) := by decide +kernel
theorem dX6_weight_25 : decode cX6_weight 25 = .ok (.lreturn, 1) := by decide +kernel
theorem dX6_best_0 : decode cX6_best 0 = .ok (.aload_n 0, 1) := by decide +kernel
theorem dX6_best_1 : decode cX6_best 1 = .ok (.iload_n 1, 1) := by decide +kernel
theorem dX6_best_2 : decode cX6_best 2 = .ok (.invokevirtual 77, 3) := by decide +kernel
theorem dX6_best_5 : decode cX6_best 5 = .ok (.ifCond .ne 6, 3) := by decide +kernel
theorem dX6_best_8 : decode cX6_best 8 = .ok (.bipush (-2), 2) := by decide +kernel
theorem dX6_best_10 : decode cX6_best 10 = .ok (.ireturn, 1) := by decide +kernel
theorem dX6_best_11 : decode cX6_best 11 = .ok (.aload_n 0, 1) := by decide +kernel
theorem dX6_best_12 : decode cX6_best 12 = .ok (.invokevirtual 109, 3) := by decide +kernel
theorem dX6_best_15 : decode cX6_best 15 = .ok (.aload_n 0, 1) := by decide +kernel
theorem dX6_best_16 : decode cX6_best 16 = .ok (.iload_n 1, 1) := by decide +kernel
theorem dX6_best_17 : decode cX6_best 17 = .ok (.invokevirtual 112, 3) := by decide +kernel
theorem dX6_best_20 : decode cX6_best 20 = .ok (.ireturn, 1) := by decide +kernel
theorem dX6_written_0 : decode cX6_written 0 = .ok (.aload_n 0, 1) := by decide +kernel
theorem dX6_written_1 : decode cX6_written 1 = .ok (.iload_n 1, 1) := by decide +kernel
theorem dX6_written_2 : decode cX6_written 2 = .ok (.invokevirtual 77, 3) := by decide +kernel
theorem dX6_written_5 : decode cX6_written 5 = .ok (.ifCond .ne 6, 3) := by decide +kernel
theorem dX6_written_8 : decode cX6_written 8 = .ok (.bipush (-2), 2) := by decide +kernel
theorem dX6_written_10 : decode cX6_written 10 = .ok (.ireturn, 1) := by decide +kernel
theorem dX6_written_11 : decode cX6_written 11 = .ok (.aload_n 0, 1) := by decide +kernel
theorem dX6_written_12 : decode cX6_written 12 = .ok (.invokevirtual 109, 3) := by decide +kernel
theorem dX6_written_15 : decode cX6_written 15 = .ok (.iload_n 2, 1) := by decide +kernel
theorem dX6_written_16 : decode cX6_written 16 = .ok (.ifCond .lt 20, 3) := by decide +kernel
theorem dX6_written_19 : decode cX6_written 19 = .ok (.iload_n 2, 1) := by decide +kernel
theorem dX6_written_20 : decode cX6_written 20 = .ok (.i2l, 1) := by decide +kernel
theorem dX6_written_21 : decode cX6_written 21 = .ok (.aload_n 0, 1) := by decide +kernel
theorem dX6_written_22 : decode cX6_written 22 = .ok (.getfield 43, 3) := by decide +kernel
theorem dX6_written_25 : decode cX6_written 25 = .ok (.aload_n 0, 1) := by decide +kernel
theorem dX6_written_26 : decode cX6_written 26 = .ok (.getfield 40, 3) := by decide +kernel
theorem dX6_written_29 : decode cX6_written 29 = .ok (.iload_n 1, 1) := by decide +kernel
theorem dX6_written_30 : decode cX6_written 30 = .ok (.iaload, 1) := by decide +kernel
theorem dX6_written_31 : decode cX6_written 31 = .ok (.laload, 1) := by decide +kernel
theorem dX6_written_32 : decode cX6_written 32 = .ok (.lcmp, 1) := by decide +kernel
theorem dX6_written_33 : decode cX6_written 33 = .ok (.ifCond .lt 5, 3) := by decide +kernel
theorem dX6_written_36 : decode cX6_written 36 = .ok (.iconst (-1), 1) := by decide +kernel
theorem dX6_written_37 : decode cX6_written 37 = .ok (.ireturn, 1) := by decide +kernel
theorem dX6_written_38 : decode cX6_written 38 = .ok (.aload_n 0, 1) := by decide +kernel
theorem dX6_written_39 : decode cX6_written 39 = .ok (.iload_n 1, 1) := by decide +kernel
theorem dX6_written_40 : decode cX6_written 40 = .ok (.invokevirtual 112, 3) := by decide +kernel
theorem dX6_written_43 : decode cX6_written 43 = .ok (.istore_n 3, 1) := by decide +kernel
theorem dX6_written_44 : decode cX6_written 44 = .ok (.iload_n 2, 1) := by decide +kernel
theorem dX6_written_45 : decode cX6_written 45 = .ok (.i2l, 1) := by decide +kernel
theorem dX6_written_46 : decode cX6_written 46 = .ok (.lstore 4, 2) := by decide +kernel
theorem dX6_written_48 : decode cX6_written 48 = .ok (.lload 4, 2) := by decide +kernel
theorem dX6_written_50 : decode cX6_written 50 = .ok (.lconst 0, 1) := by decide +kernel
theorem dX6_written_51 : decode cX6_written 51 = .ok (.lcmp, 1) := by decide +kernel
theorem dX6_written_52 : decode cX6_written 52 = .ok (.ifCond .le 81, 3) := by decide +kernel
theorem dX6_written_55 : decode cX6_written 55 = .ok (.lload 4, 2) := by decide +kernel
theorem dX6_written_57 : decode cX6_written 57 = .ok (.lconst 1, 1) := by decide +kernel
theorem dX6_written_58 : decode cX6_written 58 = .ok (.lsub, 1) := by decide +kernel
theorem dX6_written_59 : decode cX6_written 59 = .ok (.lstore 4, 2) := by decide +kernel
theorem dX6_written_61 : decode cX6_written 61 = .ok (.aload_n 0, 1) := by decide +kernel
theorem dX6_written_62 : decode cX6_written 62 = .ok (.aload_n 0, 1) := by decide +kernel
theorem dX6_written_63 : decode cX6_written 63 = .ok (.getfield 13, 3) := by decide +kernel
theorem dX6_written_66 : decode cX6_written 66 = .ok (.iload_n 3, 1) := by decide +kernel
theorem dX6_written_67 : decode cX6_written 67 = .ok (.iaload, 1) := by decide +kernel
theorem dX6_written_68 : decode cX6_written 68 = .ok (.invokevirtual 102, 3) := by decide +kernel
theorem dX6_written_71 : decode cX6_written 71 = .ok (.lstore 6, 2) := by decide +kernel
theorem dX6_written_73 : decode cX6_written 73 = .ok (.lload 4, 2) := by decide +kernel
theorem dX6_written_75 : decode cX6_written 75 = .ok (.lload 6, 2) := by decide +kernel
theorem dX6_written_77 : decode cX6_written 77 = .ok (.lcmp, 1) := by decide +kernel
theorem dX6_written_78 : decode cX6_written 78 = .ok (.ifCond .lt 7, 3) := by decide +kernel
theorem dX6_written_81 : decode cX6_written 81 = .ok (.iconst 1, 1) := by decide +kernel
theorem dX6_written_82 : decode cX6_written 82 = .ok (.goto 4, 3) := by decide +kernel
theorem dX6_written_85 : decode cX6_written 85 = .ok (.iconst 0, 1) := by decide +kernel
theorem dX6_written_86 : decode cX6_written 86 = .ok (.istore 8, 2) := by decide +kernel
theorem dX6_written_88 : decode cX6_written 88 = .ok (.iload 8, 2) := by decide +kernel
theorem dX6_written_90 : decode cX6_written 90 = .ok (.ifCond .eq 11, 3) := by decide +kernel
theorem dX6_written_93 : decode cX6_written 93 = .ok (.lload 4, 2) := by decide +kernel
theorem dX6_written_95 : decode cX6_written 95 = .ok (.lload 6, 2) := by decide +kernel
theorem dX6_written_97 : decode cX6_written 97 = .ok (.lsub, 1) := by decide +kernel
theorem dX6_written_98 : decode cX6_written 98 = .ok (.goto 5, 3) := by decide +kernel
theorem dX6_written_101 : decode cX6_written 101 = .ok (.lload 4, 2) := by decide +kernel
theorem dX6_written_103 : decode cX6_written 103 = .ok (.lstore 4, 2) := by decide +kernel
theorem dX6_written_105 : decode cX6_written 105 = .ok (.aload_n 0, 1) := by decide +kernel
theorem dX6_written_106 : decode cX6_written 106 = .ok (.iload 8, 2) := by decide +kernel
theorem dX6_written_108 : decode cX6_written 108 = .ok (.ifCond .eq 12, 3) := by decide +kernel
theorem dX6_written_111 : decode cX6_written 111 = .ok (.aload_n 0, 1) := by decide +kernel
theorem dX6_written_112 : decode cX6_written 112 = .ok (.getfield 16, 3) := by decide +kernel
theorem dX6_written_115 : decode cX6_written 115 = .ok (.iload_n 3, 1) := by decide +kernel
theorem dX6_written_116 : decode cX6_written 116 = .ok (.iaload, 1) := by decide +kernel
theorem dX6_written_117 : decode cX6_written 117 = .ok (.goto 9, 3) := by decide +kernel
theorem dX6_written_120 : decode cX6_written 120 = .ok (.aload_n 0, 1) := by decide +kernel
theorem dX6_written_121 : decode cX6_written 121 = .ok (.getfield 13, 3) := by decide +kernel
theorem dX6_written_124 : decode cX6_written 124 = .ok (.iload_n 3, 1) := by decide +kernel
theorem dX6_written_125 : decode cX6_written 125 = .ok (.iaload, 1) := by decide +kernel
theorem dX6_written_126 : decode cX6_written 126 = .ok (.invokevirtual 112, 3) := by decide +kernel
theorem dX6_written_129 : decode cX6_written 129 = .ok (.istore_n 3, 1) := by decide +kernel
theorem dX6_written_130 : decode cX6_written 130 = .ok (.goto (-82), 3) := by decide +kernel
theorem dX6_written_133 : decode cX6_written 133 = .ok (.aload_n 0, 1) := by decide +kernel
theorem dX6_written_134 : decode cX6_written 134 = .ok (.getfield 7, 3) := by decide +kernel
theorem dX6_written_137 : decode cX6_written 137 = .ok (.iload_n 3, 1) := by decide +kernel
theorem dX6_written_138 : decode cX6_written 138 = .ok (.iaload, 1) := by decide +kernel
theorem dX6_written_139 : decode cX6_written 139 = .ok (.ireturn, 1) := by decide +kernel
theorem dX6_terms_0 : decode cX6_terms 0 = .ok (.aload_n 0, 1) := by decide +kernel
theorem dX6_terms_1 : decode cX6_terms 1 = .ok (.getfield 47, 3) := by decide +kernel
theorem dX6_terms_4 : decode cX6_terms 4 = .ok (.ireturn, 1) := by decide +kernel
theorem dX6_equations_0 : decode cX6_equations 0 = .ok (.aload_n 0, 1) := by decide +kernel
theorem dX6_equations_1 : decode cX6_equations 1 = .ok (.getfield 65, 3) := by decide +kernel
theorem dX6_equations_4 : decode cX6_equations 4 = .ok (.ireturn, 1) := by decide +kernel
end
section
theorem dAr_fill_0 : decode cAr_fill 0 = .ok (.iconst 0, 1) := by decide +kernel
theorem dAr_fill_1 : decode cAr_fill 1 = .ok (.istore_n 3, 1) := by decide +kernel
theorem dAr_fill_2 : decode cAr_fill 2 = .ok (.aload_n 0, 1) := by decide +kernel
theorem dAr_fill_3 : decode cAr_fill 3 = .ok (.arraylength, 1) := by decide +kernel
theorem dAr_fill_4 : decode cAr_fill 4 = .ok (.istore 4, 2) := by decide +kernel
theorem dAr_fill_6 : decode cAr_fill 6 = .ok (.iload_n 3, 1) := by decide +kernel
theorem dAr_fill_7 : decode cAr_fill 7 = .ok (.iload 4, 2) := by decide +kernel
theorem dAr_fill_9 : decode cAr_fill 9 = .ok (.if_icmp .ge 13, 3) := by decide +kernel
theorem dAr_fill_12 : decode cAr_fill 12 = .ok (.aload_n 0, 1) := by decide +kernel
theorem dAr_fill_13 : decode cAr_fill 13 = .ok (.iload_n 3, 1) := by decide +kernel
theorem dAr_fill_14 : decode cAr_fill 14 = .ok (.lload_n 1, 1) := by decide +kernel
theorem dAr_fill_15 : decode cAr_fill 15 = .ok (.lastore, 1) := by decide +kernel
theorem dAr_fill_16 : decode cAr_fill 16 = .ok (.iinc 3 1, 3) := by decide +kernel
theorem dAr_fill_19 : decode cAr_fill 19 = .ok (.goto (-13), 3) := by decide +kernel
theorem dAr_fill_22 : decode cAr_fill 22 = .ok (.return_, 1) := by decide +kernel
end
section
/-! labels: merging, rounds, the congruence of a choice of equations (pure part; T: symbol, first and second argument, an argument coded: 0 none, k + 1 the term k) -/
abbrev cg_T : Type := (Nat → Int32) × (Nat → Nat) × (Nat → Nat)
abbrev cg_P : Type := (Nat → Nat) × Bool
def cg_mg (n : Nat) (f : Nat → Nat) (s t : Nat) : Nat → Nat := fun u => if u < n ∧ f u = max (f s) (f t) then min (f s) (f t) else f u
def cg_ar (f : Nat → Nat) : Nat → Nat
  | 0 => 0
  | k + 1 => f k + 1
abbrev cg_lk (T : cg_T) (f : Nat → Nat) (s t : Nat) : Prop := T.1 s = T.1 t ∧ cg_ar f (T.2.1 s) = cg_ar f (T.2.1 t) ∧ cg_ar f (T.2.2 s) = cg_ar f (T.2.2 t)
def cg_st (T : cg_T) (n : Nat) (p : cg_P) (s t : Nat) : cg_P := if p.1 s ≠ p.1 t ∧ cg_lk T p.1 s t then (cg_mg n p.1 s t, true) else p
def cg_in (T : cg_T) (n : Nat) (p : cg_P) (s : Nat) : Nat → cg_P
  | 0 => p
  | t + 1 => cg_st T n (cg_in T n p s t) s t
def cg_ou (T : cg_T) (n : Nat) (p : cg_P) : Nat → cg_P
  | 0 => p
  | s + 1 => cg_in T n (cg_ou T n p s) s s
def cg_rd (T : cg_T) (n : Nat) (f : Nat → Nat) : cg_P := cg_ou T n (f, false) n
def cg_it (T : cg_T) (n : Nat) (f : Nat → Nat) : Nat → Nat → Nat
  | 0 => f
  | k + 1 => (cg_rd T n (cg_it T n f k)).1
def cg_eq (n : Nat) (le ri : Nat → Nat) (S : Nat → Bool) : Nat → Nat → Nat
  | 0 => fun t => t
  | i + 1 => if S i = true then cg_mg n (cg_eq n le ri S i) (le i) (ri i) else cg_eq n le ri S i
def cg_lab (T : cg_T) (n : Nat) (le ri : Nat → Nat) (S : Nat → Bool) (k : Nat) : Nat → Nat := cg_it T n (cg_eq n le ri S k) n
def cg_cn (f : Nat → Nat) : Nat → Nat
  | 0 => 0
  | t + 1 => cg_cn f t + if f t = t then 1 else 0
def cg_ok (n : Nat) (f : Nat → Nat) : Prop := ∀ t, t < n → f t ≤ t ∧ f (f t) = f t
def cg_wf (T : cg_T) (n : Nat) : Prop := ∀ t, t < n → T.2.1 t ≤ t ∧ T.2.2 t ≤ t
def cg_we (n : Nat) (le ri : Nat → Nat) (k : Nat) : Prop := ∀ i, i < k → le i < n ∧ ri i < n
theorem cg_mg_y {n : Nat} {f : Nat → Nat} {s t u : Nat} (hu : u < n) (c : f u = max (f s) (f t)) : cg_mg n f s t u = min (f s) (f t) := if_pos ⟨hu, c⟩
theorem cg_mg_n {n : Nat} {f : Nat → Nat} {s t u : Nat} (c : ¬ f u = max (f s) (f t)) : cg_mg n f s t u = f u := if_neg fun q => c q.2
theorem cg_ok_min {n : Nat} {f : Nat → Nat} {s t : Nat} (h : cg_ok n f) (hs : s < n) (ht : t < n) : f (min (f s) (f t)) = min (f s) (f t) := by
  rcases Nat.le_total (f s) (f t) with q | q
  · rw [Nat.min_eq_left q]; exact (h s hs).2
  · rw [Nat.min_eq_right q]; exact (h t ht).2
theorem cg_ok_max {n : Nat} {f : Nat → Nat} {s t : Nat} (h : cg_ok n f) (hs : s < n) (ht : t < n) : f (max (f s) (f t)) = max (f s) (f t) := by
  rcases Nat.le_total (f s) (f t) with q | q
  · rw [Nat.max_eq_right q]; exact (h t ht).2
  · rw [Nat.max_eq_left q]; exact (h s hs).2
theorem cg_mg_ok {n : Nat} {f : Nat → Nat} {s t : Nat} (h : cg_ok n f) (hs : s < n) (ht : t < n) : cg_ok n (cg_mg n f s t) := by
  intro u hu
  have h1 := (h u hu).1
  have h2 := (h u hu).2
  by_cases c : f u = max (f s) (f t)
  · rw [cg_mg_y hu c]
    refine ⟨?_, ?_⟩
    · have a := Nat.min_le_left (f s) (f t)
      have b := Nat.le_max_left (f s) (f t)
      omega
    · by_cases c2 : f (min (f s) (f t)) = max (f s) (f t)
      · refine cg_mg_y ?_ c2
        have a := Nat.min_le_left (f s) (f t)
        have b := (h s hs).1
        omega
      · rw [cg_mg_n c2]
        exact cg_ok_min h hs ht
  · rw [cg_mg_n c]
    refine ⟨h1, ?_⟩
    rw [cg_mg_n (by rw [h2]; exact c)]
    exact h2
theorem cg_cn_le {f g : Nat → Nat} : ∀ m, (∀ t, t < m → g t = t → f t = t) → cg_cn g m ≤ cg_cn f m := by
  intro m
  induction m with
  | zero => intro _; exact Nat.le_refl _
  | succ m ih =>
    intro hk
    have h1 := ih (fun t ht => hk t (by omega))
    have hm := hk m (by omega)
    show cg_cn g m + (if g m = m then 1 else 0) ≤ cg_cn f m + (if f m = m then 1 else 0)
    by_cases e : g m = m
    · rw [if_pos e, if_pos (hm e)]; omega
    · rw [if_neg e]; omega
theorem cg_cn_lt {f g : Nat → Nat} {h : Nat} (h1 : f h = h) (h2 : ¬ g h = h) : ∀ m, h < m → (∀ t, t < m → g t = t → f t = t) → cg_cn g m < cg_cn f m := by
  intro m
  induction m with
  | zero => intro q; omega
  | succ m ih =>
    intro q hk
    have hk' : ∀ t, t < m → g t = t → f t = t := fun t ht => hk t (by omega)
    have hm := hk m (by omega)
    show cg_cn g m + (if g m = m then 1 else 0) < cg_cn f m + (if f m = m then 1 else 0)
    by_cases e : h = m
    · have a := cg_cn_le m hk'
      rw [← e, if_neg h2, if_pos h1]
      rw [← e] at a
      omega
    · have a := ih (by omega) hk'
      by_cases e1 : g m = m
      · rw [if_pos e1, if_pos (hm e1)]; omega
      · rw [if_neg e1]; omega
theorem cg_cn_top (f : Nat → Nat) : ∀ m, cg_cn f m ≤ m := by
  intro m
  induction m with
  | zero => exact Nat.le_refl _
  | succ m ih =>
    show cg_cn f m + (if f m = m then 1 else 0) ≤ m + 1
    by_cases e : f m = m
    · rw [if_pos e]; omega
    · rw [if_neg e]; omega
theorem cg_mg_lt {n : Nat} {f : Nat → Nat} {s t : Nat} (h : cg_ok n f) (hs : s < n) (ht : t < n) (hne : ¬ f s = f t) : cg_cn (cg_mg n f s t) n < cg_cn f n := by
  have hmx : max (f s) (f t) < n := by
    have a := (h s hs).1
    have b := (h t ht).1
    rcases Nat.le_total (f s) (f t) with q | q
    · rw [Nat.max_eq_right q]; omega
    · rw [Nat.max_eq_left q]; omega
  have hmm : ¬ min (f s) (f t) = max (f s) (f t) := by
    rcases Nat.le_total (f s) (f t) with q | q
    · rw [Nat.max_eq_right q, Nat.min_eq_left q]; exact hne
    · rw [Nat.max_eq_left q, Nat.min_eq_right q]; exact fun e => hne e.symm
  have hr := cg_ok_max h hs ht
  refine cg_cn_lt hr (by rw [cg_mg_y hmx hr]; exact hmm) n hmx fun u hu hg => ?_
  by_cases c : f u = max (f s) (f t)
  · rw [cg_mg_y hu c] at hg
    have hm := cg_ok_min h hs ht
    rw [hg] at hm
    exact hm
  · rw [cg_mg_n c] at hg
    exact hg
/-- a stretch of merging: nothing has changed, or there are fewer classes -/
def cg_ch (n : Nat) (p q : cg_P) : Prop := q = p ∨ (q.2 = true ∧ cg_cn q.1 n < cg_cn p.1 n)
theorem cg_ch_tr {n : Nat} {p q r : cg_P} (h1 : cg_ch n p q) (h2 : cg_ch n q r) : cg_ch n p r := by
  rcases h1 with rfl | h1
  · exact h2
  · rcases h2 with rfl | h2
    · exact Or.inr h1
    · exact Or.inr ⟨h2.1, Nat.lt_trans h2.2 h1.2⟩
theorem cg_st_ch {T : cg_T} {n : Nat} {p : cg_P} {s t : Nat} (h : cg_ok n p.1) (hs : s < n) (ht : t < n) : cg_ok n (cg_st T n p s t).1 ∧ cg_ch n p (cg_st T n p s t) := by
  by_cases c : p.1 s ≠ p.1 t ∧ cg_lk T p.1 s t
  · have e : cg_st T n p s t = (cg_mg n p.1 s t, true) := if_pos c
    rw [e]
    exact ⟨cg_mg_ok h hs ht, Or.inr ⟨rfl, cg_mg_lt h hs ht c.1⟩⟩
  · have e : cg_st T n p s t = p := if_neg c
    rw [e]
    exact ⟨h, Or.inl rfl⟩
theorem cg_in_ch {T : cg_T} {n : Nat} {p : cg_P} {s : Nat} (h : cg_ok n p.1) (hs : s < n) : ∀ t, t ≤ n → cg_ok n (cg_in T n p s t).1 ∧ cg_ch n p (cg_in T n p s t) := by
  intro t
  induction t with
  | zero => intro _; exact ⟨h, Or.inl rfl⟩
  | succ t ih =>
    intro ht
    obtain ⟨a, b⟩ := ih (by omega)
    obtain ⟨c, d⟩ := cg_st_ch (T := T) (t := t) a hs (by omega)
    exact ⟨c, cg_ch_tr b d⟩
theorem cg_ou_ch {T : cg_T} {n : Nat} {p : cg_P} (h : cg_ok n p.1) : ∀ s, s ≤ n → cg_ok n (cg_ou T n p s).1 ∧ cg_ch n p (cg_ou T n p s) := by
  intro s
  induction s with
  | zero => intro _; exact ⟨h, Or.inl rfl⟩
  | succ s ih =>
    intro hs
    obtain ⟨a, b⟩ := ih (by omega)
    obtain ⟨c, d⟩ := cg_in_ch (T := T) a (s := s) (by omega) s (by omega)
    exact ⟨c, cg_ch_tr b d⟩
theorem cg_rd_ch {T : cg_T} {n : Nat} {f : Nat → Nat} (h : cg_ok n f) : cg_ok n (cg_rd T n f).1 ∧ cg_ch n (f, false) (cg_rd T n f) := cg_ou_ch (p := (f, false)) h n (Nat.le_refl _)
def cg_fx (T : cg_T) (n : Nat) (f : Nat → Nat) : Prop := cg_rd T n f = (f, false)
theorem cg_rd_f {T : cg_T} {n : Nat} {f : Nat → Nat} (h : cg_ok n f) (hb : (cg_rd T n f).2 = false) : cg_fx T n f := by
  rcases (cg_rd_ch (T := T) h).2 with e | e
  · exact e
  · rw [hb] at e; exact absurd e.1 (by decide)
theorem cg_it_ok {T : cg_T} {n : Nat} {f : Nat → Nat} (h : cg_ok n f) : ∀ k, cg_ok n (cg_it T n f k) := by
  intro k
  induction k with
  | zero => exact h
  | succ k ih => exact (cg_rd_ch ih).1
theorem cg_it_s {T : cg_T} {n : Nat} {f : Nat → Nat} {k : Nat} (h : cg_fx T n (cg_it T n f k)) : cg_it T n f (k + 1) = cg_it T n f k := by
  show (cg_rd T n (cg_it T n f k)).1 = _
  rw [show cg_rd T n (cg_it T n f k) = (cg_it T n f k, false) from h]
theorem cg_it_fx {T : cg_T} {n : Nat} {f : Nat → Nat} (h : cg_ok n f) : ∀ k, cg_fx T n (cg_it T n f k) ∨ cg_cn (cg_it T n f (k + 1)) n + (k + 1) ≤ cg_cn f n := by
  intro k
  induction k with
  | zero =>
    rcases (cg_rd_ch (T := T) h).2 with e | e
    · exact Or.inl e
    · exact Or.inr (Nat.succ_le_of_lt e.2)
  | succ k ih =>
    rcases ih with e | e
    · refine Or.inl ?_
      rw [cg_it_s e]
      exact e
    · rcases (cg_rd_ch (T := T) (cg_it_ok h (k + 1))).2 with g | g
      · exact Or.inl g
      · refine Or.inr ?_
        have a : cg_cn (cg_it T n f (k + 1 + 1)) n < cg_cn (cg_it T n f (k + 1)) n := g.2
        omega
theorem cg_it_n {T : cg_T} {n : Nat} {f : Nat → Nat} (h : cg_ok n f) : cg_fx T n (cg_it T n f n) := by
  rcases cg_it_fx (T := T) h n with e | e
  · exact e
  · have a := cg_cn_top f n
    omega
theorem cg_it_j {T : cg_T} {n : Nat} {f : Nat → Nat} {k : Nat} (h : cg_fx T n (cg_it T n f k)) : ∀ j, cg_it T n f (k + j) = cg_it T n f k := by
  intro j
  induction j with
  | zero => rfl
  | succ j ih =>
    have e : cg_it T n f (k + j + 1) = cg_it T n f (k + j) := cg_it_s (by rw [ih]; exact h)
    exact e.trans ih
/-- the rounds end: nothing changes any more, or n rounds are through -/
theorem cg_it_e {T : cg_T} {n : Nat} {f : Nat → Nat} {r : Nat} (h : cg_ok n f) (hr : cg_fx T n (cg_it T n f r) ∨ n ≤ r) : cg_it T n f r = cg_it T n f n := by
  by_cases c : n ≤ r
  · have e := cg_it_j (cg_it_n (T := T) h) (r - n)
    rw [show n + (r - n) = r by omega] at e
    exact e
  · rcases hr with hr | hr
    · have e := cg_it_j hr (n - r)
      rw [show r + (n - r) = n by omega] at e
      exact e.symm
    · exact absurd hr c
theorem cg_it_x {T : cg_T} {n : Nat} {f : Nat → Nat} {r : Nat} (h : cg_ok n f) (hb : (cg_rd T n (cg_it T n f r)).2 = false) : cg_fx T n (cg_it T n f (r + 1)) := by
  have e := cg_rd_f (cg_it_ok h r) hb
  rw [cg_it_s e]
  exact e
/-- nothing changes in a round: the labels are closed -/
theorem cg_in_f {T : cg_T} {n : Nat} {p : cg_P} {s : Nat} {g : Nat → Nat} : ∀ t, cg_in T n p s t = (g, false) → p = (g, false) ∧ ∀ u, u < t → ¬ (g s ≠ g u ∧ cg_lk T g s u) := by
  intro t
  induction t with
  | zero => intro h; exact ⟨h, fun u hu => absurd hu (Nat.not_lt_zero _)⟩
  | succ t ih =>
    intro h
    have h2 : cg_st T n (cg_in T n p s t) s t = (g, false) := h
    by_cases c : (cg_in T n p s t).1 s ≠ (cg_in T n p s t).1 t ∧ cg_lk T (cg_in T n p s t).1 s t
    · have e : cg_st T n (cg_in T n p s t) s t = (cg_mg n (cg_in T n p s t).1 s t, true) := if_pos c
      rw [e] at h2
      exact Bool.noConfusion (show true = false from congrArg Prod.snd h2)
    · have e : cg_st T n (cg_in T n p s t) s t = cg_in T n p s t := if_neg c
      rw [e] at h2
      obtain ⟨a, b⟩ := ih h2
      refine ⟨a, fun u hu => ?_⟩
      by_cases q : u = t
      · rw [h2] at c
        rw [q]
        exact c
      · exact b u (by omega)
theorem cg_ou_f {T : cg_T} {n : Nat} {p : cg_P} {g : Nat → Nat} : ∀ s, cg_ou T n p s = (g, false) → p = (g, false) ∧ ∀ a, a < s → ∀ u, u < a → ¬ (g a ≠ g u ∧ cg_lk T g a u) := by
  intro s
  induction s with
  | zero => intro h; exact ⟨h, fun a ha => absurd ha (Nat.not_lt_zero _)⟩
  | succ s ih =>
    intro h
    obtain ⟨a, b⟩ := cg_in_f s (show cg_in T n (cg_ou T n p s) s s = (g, false) from h)
    obtain ⟨c, d⟩ := ih a
    refine ⟨c, fun v hv => ?_⟩
    by_cases q : v = s
    · rw [q]; exact b
    · exact d v (by omega)
def cg_cl (T : cg_T) (n : Nat) (g : Nat → Nat) : Prop := ∀ a, a < n → ∀ u, u < n → cg_lk T g a u → g a = g u
theorem cg_fx_cl {T : cg_T} {n : Nat} {g : Nat → Nat} (h : cg_fx T n g) : cg_cl T n g := by
  have k := (cg_ou_f (p := (g, false)) n h).2
  intro a ha u hu hl
  rcases Nat.lt_trichotomy u a with q | q | q
  · exact Decidable.byContradiction fun e => k a ha u q ⟨e, hl⟩
  · rw [q]
  · exact Decidable.byContradiction fun e => k u hu a q ⟨fun z => e z.symm, hl.1.symm, hl.2.1.symm, hl.2.2.symm⟩
/-- what one labelling joins, the other joins too -/
def cg_sb (n : Nat) (f h : Nat → Nat) : Prop := ∀ u, u < n → ∀ v, v < n → f u = f v → h u = h v
theorem cg_mg_sb {n : Nat} {f h : Nat → Nat} {s t : Nat} (k : cg_sb n f h) (hs : s < n) (ht : t < n) (e : h s = h t) : cg_sb n (cg_mg n f s t) h := by
  have key : ∀ u, u < n → ∀ v, v < n → f u = max (f s) (f t) → f v = min (f s) (f t) → h u = h v := by
    intro u hu v hv a b
    rcases Nat.le_total (f s) (f t) with q | q
    · rw [Nat.max_eq_right q] at a
      rw [Nat.min_eq_left q] at b
      rw [k u hu t ht a, k v hv s hs b]
      exact e.symm
    · rw [Nat.max_eq_left q] at a
      rw [Nat.min_eq_right q] at b
      rw [k u hu s hs a, k v hv t ht b]
      exact e
  intro u hu v hv g
  by_cases c1 : f u = max (f s) (f t)
  · by_cases c2 : f v = max (f s) (f t)
    · exact k u hu v hv (c1.trans c2.symm)
    · rw [cg_mg_y hu c1, cg_mg_n c2] at g
      exact key u hu v hv c1 g.symm
  · by_cases c2 : f v = max (f s) (f t)
    · rw [cg_mg_n c1, cg_mg_y hv c2] at g
      exact (key v hv u hu c2 g).symm
    · rw [cg_mg_n c1, cg_mg_n c2] at g
      exact k u hu v hv g
theorem cg_ar_sb {n : Nat} {f h : Nat → Nat} (k : cg_sb n f h) {x y : Nat} (hx : x ≤ n) (hy : y ≤ n) (e : cg_ar f x = cg_ar f y) : cg_ar h x = cg_ar h y := by
  cases x with
  | zero =>
    cases y with
    | zero => rfl
    | succ y => exact absurd (show (0 : Nat) = f y + 1 from e) (by omega)
  | succ x =>
    cases y with
    | zero => exact absurd (show f x + 1 = (0 : Nat) from e) (by omega)
    | succ y =>
      have e2 : f x + 1 = f y + 1 := e
      show h x + 1 = h y + 1
      rw [k x (by omega) y (by omega) (by omega)]
theorem cg_lk_sb {T : cg_T} {n : Nat} {f h : Nat → Nat} (w : cg_wf T n) (k : cg_sb n f h) {s t : Nat} (hs : s < n) (ht : t < n) (e : cg_lk T f s t) : cg_lk T h s t := by
  have a := w s hs
  have b := w t ht
  exact ⟨e.1, cg_ar_sb k (by omega) (by omega) e.2.1, cg_ar_sb k (by omega) (by omega) e.2.2⟩
theorem cg_st_sb {T : cg_T} {n : Nat} {p : cg_P} {h : Nat → Nat} (w : cg_wf T n) (hc : cg_cl T n h) {s t : Nat} (k : cg_sb n p.1 h) (hs : s < n) (ht : t < n) : cg_sb n (cg_st T n p s t).1 h := by
  by_cases c : p.1 s ≠ p.1 t ∧ cg_lk T p.1 s t
  · have e : cg_st T n p s t = (cg_mg n p.1 s t, true) := if_pos c
    rw [e]
    exact cg_mg_sb k hs ht (hc s hs t ht (cg_lk_sb w k hs ht c.2))
  · have e : cg_st T n p s t = p := if_neg c
    rw [e]
    exact k
theorem cg_in_sb {T : cg_T} {n : Nat} {p : cg_P} {h : Nat → Nat} (w : cg_wf T n) (hc : cg_cl T n h) {s : Nat} (k : cg_sb n p.1 h) (hs : s < n) : ∀ t, t ≤ n → cg_sb n (cg_in T n p s t).1 h := by
  intro t
  induction t with
  | zero => intro _; exact k
  | succ t ih => intro ht; exact cg_st_sb w hc (ih (by omega)) hs (by omega)
theorem cg_ou_sb {T : cg_T} {n : Nat} {p : cg_P} {h : Nat → Nat} (w : cg_wf T n) (hc : cg_cl T n h) (k : cg_sb n p.1 h) : ∀ s, s ≤ n → cg_sb n (cg_ou T n p s).1 h := by
  intro s
  induction s with
  | zero => intro _; exact k
  | succ s ih => intro hs; exact cg_in_sb w hc (ih (by omega)) (by omega) s (by omega)
theorem cg_it_sb {T : cg_T} {n : Nat} {f h : Nat → Nat} (w : cg_wf T n) (hc : cg_cl T n h) (k : cg_sb n f h) : ∀ r, cg_sb n (cg_it T n f r) h := by
  intro r
  induction r with
  | zero => exact k
  | succ r ih => exact cg_ou_sb (p := (cg_it T n f r, false)) w hc ih n (Nat.le_refl _)
theorem cg_eq_sb {n : Nat} {le ri : Nat → Nat} {S : Nat → Bool} {h : Nat → Nat} : ∀ k, cg_we n le ri k → (∀ i, i < k → S i = true → h (le i) = h (ri i)) → cg_sb n (cg_eq n le ri S k) h := by
  intro k
  induction k with
  | zero => intro _ _ u _ v _ e; exact congrArg h e
  | succ k ih =>
    intro w he
    have a := ih (fun i hi => w i (by omega)) (fun i hi => he i (by omega))
    by_cases c : S k = true
    · have e : cg_eq n le ri S (k + 1) = cg_mg n (cg_eq n le ri S k) (le k) (ri k) := if_pos c
      rw [e]
      exact cg_mg_sb a (w k (by omega)).1 (w k (by omega)).2 (he k (by omega) c)
    · have e : cg_eq n le ri S (k + 1) = cg_eq n le ri S k := if_neg c
      rw [e]
      exact a
theorem cg_eq_ok {n : Nat} {le ri : Nat → Nat} {S : Nat → Bool} : ∀ k, cg_we n le ri k → cg_ok n (cg_eq n le ri S k) := by
  intro k
  induction k with
  | zero => intro _ t _; exact ⟨Nat.le_refl _, rfl⟩
  | succ k ih =>
    intro w
    have a := ih (fun i hi => w i (by omega))
    by_cases c : S k = true
    · have e : cg_eq n le ri S (k + 1) = cg_mg n (cg_eq n le ri S k) (le k) (ri k) := if_pos c
      rw [e]
      exact cg_mg_ok a (w k (by omega)).1 (w k (by omega)).2
    · have e : cg_eq n le ri S (k + 1) = cg_eq n le ri S k := if_neg c
      rw [e]
      exact a
theorem cg_mg_st {n : Nat} {f : Nat → Nat} {s t : Nat} (hs : s < n) (ht : t < n) : cg_mg n f s t s = cg_mg n f s t t := by
  rcases Nat.le_total (f s) (f t) with q | q
  · rw [cg_mg_y ht (Nat.max_eq_right q).symm]
    by_cases c : f s = max (f s) (f t)
    · rw [cg_mg_y hs c]
    · rw [cg_mg_n c, Nat.min_eq_left q]
  · rw [cg_mg_y hs (Nat.max_eq_left q).symm]
    by_cases c : f t = max (f s) (f t)
    · rw [cg_mg_y ht c]
    · rw [cg_mg_n c, Nat.min_eq_right q]
/-- what was joined stays so -/
theorem cg_mg_up {n : Nat} {f : Nat → Nat} {s t : Nat} : cg_sb n f (cg_mg n f s t) := by
  intro u hu v hv e
  by_cases c : f u = max (f s) (f t)
  · rw [cg_mg_y hu c, cg_mg_y hv (e.symm.trans c)]
  · rw [cg_mg_n c, cg_mg_n (by rw [← e]; exact c)]
    exact e
theorem cg_sb_tr {n : Nat} {f g h : Nat → Nat} (a : cg_sb n f g) (b : cg_sb n g h) : cg_sb n f h := fun u hu v hv e => b u hu v hv (a u hu v hv e)
theorem cg_st_up {T : cg_T} {n : Nat} {p : cg_P} {s t : Nat} : cg_sb n p.1 (cg_st T n p s t).1 := by
  by_cases c : p.1 s ≠ p.1 t ∧ cg_lk T p.1 s t
  · have e : cg_st T n p s t = (cg_mg n p.1 s t, true) := if_pos c
    rw [e]
    exact cg_mg_up
  · have e : cg_st T n p s t = p := if_neg c
    rw [e]
    exact fun _ _ _ _ q => q
theorem cg_in_up {T : cg_T} {n : Nat} {p : cg_P} {s : Nat} : ∀ t, cg_sb n p.1 (cg_in T n p s t).1 := by
  intro t
  induction t with
  | zero => exact fun _ _ _ _ q => q
  | succ t ih => exact cg_sb_tr ih cg_st_up
theorem cg_ou_up {T : cg_T} {n : Nat} {p : cg_P} : ∀ s, cg_sb n p.1 (cg_ou T n p s).1 := by
  intro s
  induction s with
  | zero => exact fun _ _ _ _ q => q
  | succ s ih => exact cg_sb_tr ih (cg_in_up s)
theorem cg_it_up {T : cg_T} {n : Nat} {f : Nat → Nat} : ∀ r, cg_sb n f (cg_it T n f r) := by
  intro r
  induction r with
  | zero => exact fun _ _ _ _ q => q
  | succ r ih => exact cg_sb_tr ih (cg_ou_up (p := (cg_it T n f r, false)) n)
theorem cg_eq_in {n : Nat} {le ri : Nat → Nat} {S : Nat → Bool} : ∀ k, cg_we n le ri k → ∀ i, i < k → S i = true → cg_eq n le ri S k (le i) = cg_eq n le ri S k (ri i) := by
  intro k
  induction k with
  | zero => intro _ i hi; exact absurd hi (Nat.not_lt_zero _)
  | succ k ih =>
    intro w i hi hS
    by_cases c : S k = true
    · have e : cg_eq n le ri S (k + 1) = cg_mg n (cg_eq n le ri S k) (le k) (ri k) := if_pos c
      rw [e]
      by_cases q : i = k
      · rw [q]
        exact cg_mg_st (w k (by omega)).1 (w k (by omega)).2
      · exact cg_mg_up _ (w i hi).1 _ (w i hi).2 (ih (fun j hj => w j (by omega)) i (by omega) hS)
    · have e : cg_eq n le ri S (k + 1) = cg_eq n le ri S k := if_neg c
      rw [e]
      by_cases q : i = k
      · rw [q] at hS; exact absurd hS c
      · exact ih (fun j hj => w j (by omega)) i (by omega) hS
theorem cg_lab_ok {T : cg_T} {n k : Nat} {le ri : Nat → Nat} {S : Nat → Bool} (w : cg_we n le ri k) : cg_ok n (cg_lab T n le ri S k) := cg_it_ok (cg_eq_ok k w) n
theorem cg_lab_cl {T : cg_T} {n k : Nat} {le ri : Nat → Nat} {S : Nat → Bool} (w : cg_we n le ri k) : cg_cl T n (cg_lab T n le ri S k) := cg_fx_cl (cg_it_n (cg_eq_ok k w))
theorem cg_lab_in {T : cg_T} {n k : Nat} {le ri : Nat → Nat} {S : Nat → Bool} (w : cg_we n le ri k) {i : Nat} (hi : i < k) (hS : S i = true) : cg_lab T n le ri S k (le i) = cg_lab T n le ri S k (ri i) := cg_it_up n _ (w i hi).1 _ (w i hi).2 (cg_eq_in k w i hi hS)
/-- more equations join more -/
theorem cg_mono {T : cg_T} {n k : Nat} {le ri : Nat → Nat} {S S' : Nat → Bool} (wT : cg_wf T n) (w : cg_we n le ri k) (h : ∀ i, i < k → S i = true → S' i = true) : cg_sb n (cg_lab T n le ri S k) (cg_lab T n le ri S' k) :=
  cg_it_sb wT (cg_lab_cl w) (cg_eq_sb k w (fun _ hi hS => cg_lab_in w hi (h _ hi hS))) n
theorem cg_eq_ex {n : Nat} {le ri : Nat → Nat} {S S' : Nat → Bool} : ∀ k, (∀ i, i < k → S i = S' i) → cg_eq n le ri S k = cg_eq n le ri S' k := by
  intro k
  induction k with
  | zero => intro _; rfl
  | succ k ih =>
    intro h
    show (if S k = true then cg_mg n (cg_eq n le ri S k) (le k) (ri k) else cg_eq n le ri S k) = (if S' k = true then cg_mg n (cg_eq n le ri S' k) (le k) (ri k) else cg_eq n le ri S' k)
    rw [ih (fun i hi => h i (by omega)), h k (by omega)]
theorem cg_lab_ex {T : cg_T} {n k : Nat} {le ri : Nat → Nat} {S S' : Nat → Bool} (h : ∀ i, i < k → S i = S' i) : cg_lab T n le ri S k = cg_lab T n le ri S' k := by
  show cg_it T n (cg_eq n le ri S k) n = cg_it T n (cg_eq n le ri S' k) n
  rw [cg_eq_ex k h]
end
section
/-! searching, counting, agreeing below n -/
theorem cg_least (P : Nat → Prop) (h : ∃ n, P n) : ∃ u, P u ∧ ∀ v, v < u → ¬ P v := by
  obtain ⟨n, hn⟩ := h
  induction n using Nat.strongRecOn with
  | ind n ih =>
    by_cases c : ∃ v, v < n ∧ P v
    · obtain ⟨v, h1, h2⟩ := c
      exact ih v h1 h2
    · exact ⟨n, hn, fun v hv q => c ⟨v, hv, q⟩⟩
theorem cg_mg_ag {n : Nat} {f g : Nat → Nat} {s t : Nat} (h : ∀ u, u < n → g u = f u) (hs : s < n) (ht : t < n) : ∀ u, u < n → cg_mg n g s t u = cg_mg n f s t u := by
  intro u hu
  unfold cg_mg
  rw [h u hu, h s hs, h t ht]
theorem cg_mg_cm {n : Nat} {f : Nat → Nat} {s t : Nat} : cg_mg n f s t = cg_mg n f t s := by
  funext u
  unfold cg_mg
  rw [Nat.max_comm, Nat.min_comm]
theorem cg_ar_ag {n : Nat} {f g : Nat → Nat} (h : ∀ u, u < n → g u = f u) {x : Nat} (hx : x ≤ n) : cg_ar g x = cg_ar f x := by
  cases x with
  | zero => rfl
  | succ k =>
    show g k + 1 = f k + 1
    rw [h k (by omega)]
/-- the least place below n at which P holds, n if there is none -/
def cg_fs (P : Nat → Bool) : Nat → Nat
  | 0 => 0
  | n + 1 => if cg_fs P n < n then cg_fs P n else if P n = true then n else n + 1
theorem cg_fs_le (P : Nat → Bool) : ∀ n, cg_fs P n ≤ n := by
  intro n
  induction n with
  | zero => exact Nat.le_refl _
  | succ n ih =>
    show (if cg_fs P n < n then cg_fs P n else if P n = true then n else n + 1) ≤ n + 1
    split
    · omega
    · split <;> omega
theorem cg_fs_no {P : Nat → Bool} : ∀ n, (∀ v, v < n → P v = false) → cg_fs P n = n := by
  intro n
  induction n with
  | zero => intro _; rfl
  | succ n ih =>
    intro h
    have e := ih (fun v hv => h v (by omega))
    show (if cg_fs P n < n then cg_fs P n else if P n = true then n else n + 1) = n + 1
    rw [if_neg (by omega), if_neg (by rw [h n (by omega)]; decide)]
theorem cg_fs_at {P : Nat → Bool} {u : Nat} (hu : P u = true) (hv : ∀ v, v < u → P v = false) : ∀ n, u < n → cg_fs P n = u := by
  intro n
  induction n with
  | zero => intro h; omega
  | succ n ih =>
    intro h
    show (if cg_fs P n < n then cg_fs P n else if P n = true then n else n + 1) = u
    by_cases e : u = n
    · have k := cg_fs_no n (P := P) (fun v h2 => hv v (by omega))
      rw [if_neg (by omega), if_pos (by rw [← e]; exact hu)]
      exact e.symm
    · have k := ih (by omega)
      rw [if_pos (by omega)]
      exact k
theorem cg_fs_p {P : Nat → Bool} : ∀ n, cg_fs P n < n → P (cg_fs P n) = true ∧ ∀ v, v < cg_fs P n → P v = false := by
  intro n
  induction n with
  | zero => intro h; exact absurd h (Nat.not_lt_zero _)
  | succ n ih =>
    intro h
    by_cases c : cg_fs P n < n
    · have e : cg_fs P (n + 1) = cg_fs P n := if_pos c
      rw [e]
      exact ih c
    · have hno : ∀ v, v < n → P v = false := by
        intro v hv
        cases hp : P v with
        | false => rfl
        | true =>
          obtain ⟨u, h1, h2⟩ := cg_least (fun v => v < n ∧ P v = true) ⟨v, hv, hp⟩
          have := cg_fs_at (P := P) (u := u) h1.2 (fun x hx => by
            cases hq : P x with
            | false => rfl
            | true => exact absurd ⟨by omega, hq⟩ (h2 x hx)) n h1.1
          omega
      by_cases hp : P n = true
      · have e : cg_fs P (n + 1) = n := by
          show (if cg_fs P n < n then cg_fs P n else if P n = true then n else n + 1) = n
          rw [if_neg c, if_pos hp]
        rw [e]
        exact ⟨hp, hno⟩
      · have e : cg_fs P (n + 1) = n + 1 := by
          show (if cg_fs P n < n then cg_fs P n else if P n = true then n else n + 1) = n + 1
          rw [if_neg c, if_neg hp]
        omega
/-- at how many places below n it holds -/
def cg_ct (P : Nat → Bool) : Nat → Nat
  | 0 => 0
  | t + 1 => cg_ct P t + if P t = true then 1 else 0
theorem cg_ct_le {P Q : Nat → Bool} : ∀ m, (∀ t, t < m → Q t = true → P t = true) → cg_ct Q m ≤ cg_ct P m := by
  intro m
  induction m with
  | zero => intro _; exact Nat.le_refl _
  | succ m ih =>
    intro hk
    have h1 := ih (fun t ht => hk t (by omega))
    have hm := hk m (by omega)
    show cg_ct Q m + (if Q m = true then 1 else 0) ≤ cg_ct P m + (if P m = true then 1 else 0)
    by_cases e : Q m = true
    · rw [if_pos e, if_pos (hm e)]; omega
    · rw [if_neg e]; omega
theorem cg_ct_lt {P Q : Nat → Bool} {h : Nat} (h1 : P h = true) (h2 : ¬ Q h = true) : ∀ m, h < m → (∀ t, t < m → Q t = true → P t = true) → cg_ct Q m < cg_ct P m := by
  intro m
  induction m with
  | zero => intro q; omega
  | succ m ih =>
    intro q hk
    have hk' : ∀ t, t < m → Q t = true → P t = true := fun t ht => hk t (by omega)
    have hm := hk m (by omega)
    show cg_ct Q m + (if Q m = true then 1 else 0) < cg_ct P m + (if P m = true then 1 else 0)
    by_cases e : h = m
    · have a := cg_ct_le m hk'
      rw [← e, if_neg h2, if_pos h1]
      rw [← e] at a
      omega
    · have a := ih (by omega) hk'
      by_cases e1 : Q m = true
      · rw [if_pos e1, if_pos (hm e1)]; omega
      · rw [if_neg e1]; omega
theorem cg_ct_top (P : Nat → Bool) : ∀ m, cg_ct P m ≤ m := by
  intro m
  induction m with
  | zero => exact Nat.le_refl _
  | succ m ih =>
    show cg_ct P m + (if P m = true then 1 else 0) ≤ m + 1
    by_cases e : P m = true
    · rw [if_pos e]; omega
    · rw [if_neg e]; omega
theorem cg_ct_no {P : Nat → Bool} {h : Nat} (h2 : ¬ P h = true) : ∀ m, h < m → cg_ct P m < m := by
  intro m
  induction m with
  | zero => intro q; omega
  | succ m ih =>
    intro q
    show cg_ct P m + (if P m = true then 1 else 0) < m + 1
    by_cases e : h = m
    · have a := cg_ct_top P m
      rw [if_neg (by rw [← e]; exact h2)]; omega
    · have a := ih (by omega)
      by_cases e1 : P m = true
      · rw [if_pos e1]; omega
      · rw [if_neg e1]; omega
/-! weights: T terms, L labels, w the weights of the labels; 2 ^ 60 is 'not known yet' -/
def wt_a (L w : Nat → Nat) : Nat → Nat
  | 0 => 0
  | k + 1 => w (L k)
def wt_c (T : cg_T) (L w : Nat → Nat) (t : Nat) : Nat := 1 + wt_a L w (T.2.1 t) + wt_a L w (T.2.2 t)
def wt_u (w : Nat → Nat) (c x : Nat) : Nat → Nat := fun j => if j = c then x else w j
def wt_s (T : cg_T) (L : Nat → Nat) (p : cg_P) (t : Nat) : cg_P := if wt_c T L p.1 t < p.1 (L t) then (wt_u p.1 (L t) (wt_c T L p.1 t), true) else p
def wt_o (T : cg_T) (L : Nat → Nat) (p : cg_P) : Nat → cg_P
  | 0 => p
  | t + 1 => wt_s T L (wt_o T L p t) t
def wt_r (T : cg_T) (L : Nat → Nat) (n : Nat) (w : Nat → Nat) : cg_P := wt_o T L (w, false) n
def wt_i (T : cg_T) (L : Nat → Nat) (n : Nat) : Nat → Nat → Nat
  | 0 => fun _ => 2 ^ 60
  | k + 1 => (wt_r T L n (wt_i T L n k)).1
def wt_f (T : cg_T) (L : Nat → Nat) (n : Nat) : Nat → Nat := wt_i T L n n
def wt_m (w : Nat → Nat) : Nat → Nat
  | 0 => 0
  | j + 1 => wt_m w j + w j
def wt_x (T : cg_T) (L : Nat → Nat) (n : Nat) (w : Nat → Nat) : Prop := wt_r T L n w = (w, false)
def wt_l (g f : Nat → Nat) : Prop := ∀ j, g j ≤ f j
theorem wt_l_tr {f g h : Nat → Nat} (a : wt_l f g) (b : wt_l g h) : wt_l f h := fun j => Nat.le_trans (a j) (b j)
theorem wt_m_le {f g : Nat → Nat} (h : wt_l g f) : ∀ m, wt_m g m ≤ wt_m f m := by
  intro m
  induction m with
  | zero => exact Nat.le_refl _
  | succ m ih => exact Nat.add_le_add ih (h m)
theorem wt_m_lt {f g : Nat → Nat} (h : wt_l g f) {c : Nat} (hc : g c < f c) : ∀ m, c < m → wt_m g m < wt_m f m := by
  intro m
  induction m with
  | zero => intro q; omega
  | succ m ih =>
    intro q
    show wt_m g m + g m < wt_m f m + f m
    have a := h m
    by_cases e : c = m
    · have b := wt_m_le h m
      rw [← e]
      rw [← e] at b
      omega
    · have b := ih (by omega)
      omega
theorem wt_u_le {w : Nat → Nat} {c x : Nat} (h : x ≤ w c) : wt_l (wt_u w c x) w := by
  intro j
  unfold wt_u
  by_cases e : j = c
  · rw [if_pos e, e]; exact h
  · rw [if_neg e]; exact Nat.le_refl _
theorem wt_u_at {w : Nat → Nat} {c x : Nat} : wt_u w c x c = x := if_pos rfl
theorem wt_u_ne {w : Nat → Nat} {c x j : Nat} (h : ¬ j = c) : wt_u w c x j = w j := if_neg h
theorem wt_s_le {T : cg_T} {L : Nat → Nat} {p : cg_P} {t : Nat} : wt_l (wt_s T L p t).1 p.1 := by
  by_cases c : wt_c T L p.1 t < p.1 (L t)
  · have e : wt_s T L p t = (wt_u p.1 (L t) (wt_c T L p.1 t), true) := if_pos c
    rw [e]
    exact wt_u_le (Nat.le_of_lt c)
  · have e : wt_s T L p t = p := if_neg c
    rw [e]
    exact fun _ => Nat.le_refl _
theorem wt_s_at {T : cg_T} {L : Nat → Nat} {p : cg_P} {t : Nat} : (wt_s T L p t).1 (L t) ≤ wt_c T L p.1 t := by
  by_cases c : wt_c T L p.1 t < p.1 (L t)
  · have e : wt_s T L p t = (wt_u p.1 (L t) (wt_c T L p.1 t), true) := if_pos c
    rw [e]
    show wt_u p.1 (L t) (wt_c T L p.1 t) (L t) ≤ _
    rw [wt_u_at]
    exact Nat.le_refl _
  · have e : wt_s T L p t = p := if_neg c
    rw [e]
    exact Nat.le_of_not_lt c
theorem wt_o_le {T : cg_T} {L : Nat → Nat} {p : cg_P} {a : Nat} : ∀ j, wt_l (wt_o T L p (a + j)).1 (wt_o T L p a).1 := by
  intro j
  induction j with
  | zero => exact fun _ => Nat.le_refl _
  | succ j ih => exact wt_l_tr (wt_s_le (p := wt_o T L p (a + j)) (t := a + j)) ih
theorem wt_o_l0 {T : cg_T} {L : Nat → Nat} {p : cg_P} (m : Nat) : wt_l (wt_o T L p m).1 p.1 := by
  have h := wt_o_le (T := T) (L := L) (p := p) (a := 0) m
  rw [Nat.zero_add] at h
  exact h
theorem wt_a_le {L g f : Nat → Nat} (h : wt_l g f) (x : Nat) : wt_a L g x ≤ wt_a L f x := by
  cases x with
  | zero => exact Nat.le_refl _
  | succ k => exact h _
theorem wt_c_le {T : cg_T} {L g f : Nat → Nat} (h : wt_l g f) (t : Nat) : wt_c T L g t ≤ wt_c T L f t := by
  have a := wt_a_le (L := L) h (T.2.1 t)
  have b := wt_a_le (L := L) h (T.2.2 t)
  unfold wt_c
  omega
theorem wt_o_ch {T : cg_T} {L : Nat → Nat} {n : Nat} (hL : ∀ t, t < n → L t < n) {p : cg_P} : ∀ m, m ≤ n → wt_o T L p m = p ∨ ((wt_o T L p m).2 = true ∧ wt_m (wt_o T L p m).1 n < wt_m p.1 n) := by
  intro m
  induction m with
  | zero => intro _; exact Or.inl rfl
  | succ m ih =>
    intro hm
    have k := ih (by omega)
    by_cases c : wt_c T L (wt_o T L p m).1 m < (wt_o T L p m).1 (L m)
    · have e : wt_o T L p (m + 1) = (wt_u (wt_o T L p m).1 (L m) (wt_c T L (wt_o T L p m).1 m), true) := if_pos c
      rw [e]
      refine Or.inr ⟨rfl, ?_⟩
      have a : wt_m (wt_u (wt_o T L p m).1 (L m) (wt_c T L (wt_o T L p m).1 m)) n < wt_m (wt_o T L p m).1 n :=
        wt_m_lt (wt_u_le (Nat.le_of_lt c)) (c := L m) (by rw [wt_u_at]; exact c) n (hL m (by omega))
      have b := wt_m_le (wt_o_l0 (T := T) (L := L) (p := p) m) n
      exact Nat.lt_of_lt_of_le a b
    · have e : wt_o T L p (m + 1) = wt_o T L p m := if_neg c
      rw [e]
      exact k
theorem wt_r_f {T : cg_T} {L : Nat → Nat} {n : Nat} (hL : ∀ t, t < n → L t < n) {w : Nat → Nat} (hb : (wt_r T L n w).2 = false) : wt_x T L n w := by
  rcases wt_o_ch (T := T) hL (p := (w, false)) n (Nat.le_refl _) with e | e
  · exact e
  · exact absurd (e.1.symm.trans hb) (by decide)
theorem wt_i_s {T : cg_T} {L : Nat → Nat} {n k : Nat} (h : wt_x T L n (wt_i T L n k)) : wt_i T L n (k + 1) = wt_i T L n k := by
  show (wt_r T L n (wt_i T L n k)).1 = _
  rw [show wt_r T L n (wt_i T L n k) = (wt_i T L n k, false) from h]
theorem wt_i_j {T : cg_T} {L : Nat → Nat} {n k : Nat} (h : wt_x T L n (wt_i T L n k)) : ∀ j, wt_i T L n (k + j) = wt_i T L n k := by
  intro j
  induction j with
  | zero => rfl
  | succ j ih =>
    have e : wt_i T L n (k + j + 1) = wt_i T L n (k + j) := wt_i_s (by rw [ih]; exact h)
    exact e.trans ih
theorem wt_i_u {T : cg_T} {L : Nat → Nat} {n : Nat} : ∀ k j, wt_i T L n k j ≤ 2 ^ 60 := by
  intro k
  induction k with
  | zero => intro j; exact Nat.le_refl _
  | succ k ih => intro j; exact Nat.le_trans (wt_o_l0 (p := (wt_i T L n k, false)) n j) (ih j)
theorem wt_i_ex {T : cg_T} {L : Nat → Nat} {n : Nat} (hL : ∀ t, t < n → L t < n) : ∀ m k, wt_m (wt_i T L n k) n ≤ m → ∃ j, wt_x T L n (wt_i T L n j) := by
  intro m
  induction m with
  | zero =>
    intro k hk
    rcases wt_o_ch (T := T) hL (p := (wt_i T L n k, false)) n (Nat.le_refl _) with e | e
    · exact ⟨k, e⟩
    · have a := e.2
      have b : wt_m ((wt_i T L n k, false) : cg_P).1 n ≤ 0 := hk
      omega
  | succ m ih =>
    intro k hk
    rcases wt_o_ch (T := T) hL (p := (wt_i T L n k, false)) n (Nat.le_refl _) with e | e
    · exact ⟨k, e⟩
    · have a : wt_m (wt_i T L n (k + 1)) n < wt_m (wt_i T L n k) n := e.2
      exact ih (k + 1) (by omega)
/-- nothing can be lowered any more -/
def wt_y (T : cg_T) (L : Nat → Nat) (n : Nat) (w : Nat → Nat) : Prop := ∀ t, t < n → w (L t) ≤ wt_c T L w t
theorem wt_o_f {T : cg_T} {L : Nat → Nat} {p : cg_P} {w : Nat → Nat} : ∀ m, wt_o T L p m = (w, false) → p = (w, false) ∧ ∀ t, t < m → w (L t) ≤ wt_c T L w t := by
  intro m
  induction m with
  | zero => intro h; exact ⟨h, fun t ht => absurd ht (Nat.not_lt_zero _)⟩
  | succ m ih =>
    intro h
    by_cases c : wt_c T L (wt_o T L p m).1 m < (wt_o T L p m).1 (L m)
    · have e : wt_o T L p (m + 1) = (wt_u (wt_o T L p m).1 (L m) (wt_c T L (wt_o T L p m).1 m), true) := if_pos c
      rw [e] at h
      exact Bool.noConfusion (show true = false from congrArg Prod.snd h)
    · have e : wt_o T L p (m + 1) = wt_o T L p m := if_neg c
      rw [e] at h
      obtain ⟨a, b⟩ := ih h
      refine ⟨a, fun t ht => ?_⟩
      by_cases q : t = m
      · rw [h] at c
        rw [q]
        exact Nat.le_of_not_lt c
      · exact b t (by omega)
theorem wt_x_y {T : cg_T} {L : Nat → Nat} {n : Nat} {w : Nat → Nat} (h : wt_x T L n w) : wt_y T L n w := (wt_o_f (p := (w, false)) n h).2
theorem wt_y_x {T : cg_T} {L : Nat → Nat} {n : Nat} {w : Nat → Nat} (h : wt_y T L n w) : wt_x T L n w := by
  have k : ∀ m, m ≤ n → wt_o T L (w, false) m = (w, false) := by
    intro m
    induction m with
    | zero => intro _; rfl
    | succ m ih =>
      intro hm
      show wt_s T L (wt_o T L (w, false) m) m = (w, false)
      rw [ih (by omega)]
      exact if_neg (Nat.not_lt_of_le (h m (by omega)))
  exact k n (Nat.le_refl _)
theorem wt_a_lt {L w : Nat → Nat} {t : Nat} (h : ∀ u, u < t → w (L u) < 2 ^ (u + 1)) {x : Nat} (hx : x ≤ t) : wt_a L w x < 2 ^ t := by
  cases x with
  | zero => exact Nat.two_pow_pos t
  | succ k => exact Nat.lt_of_lt_of_le (h k (by omega)) (Nat.pow_le_pow_right (by decide) hx)
theorem wt_c_lt {T : cg_T} {L w : Nat → Nat} {n t : Nat} (wf : cg_wf T n) (ht : t < n) (h : ∀ u, u < t → w (L u) < 2 ^ (u + 1)) : wt_c T L w t < 2 ^ (t + 1) := by
  have a := wt_a_lt h (wf t ht).1
  have b := wt_a_lt h (wf t ht).2
  rw [Nat.pow_succ]
  unfold wt_c
  omega
theorem wt_y_lt {T : cg_T} {L w : Nat → Nat} {n : Nat} (wf : cg_wf T n) (h : wt_y T L n w) : ∀ t, t < n → w (L t) < 2 ^ (t + 1) := by
  intro t
  induction t using Nat.strongRecOn with
  | ind t ih =>
    intro ht
    exact Nat.lt_of_le_of_lt (h t ht) (wt_c_lt wf ht (fun u hu => ih u hu (by omega)))
/-- a known weight is the cost of some term, or more -/
def wt_v (T : cg_T) (L : Nat → Nat) (n : Nat) (w : Nat → Nat) : Prop := ∀ t, t < n → w (L t) = 2 ^ 60 ∨ ∃ u, u < n ∧ L u = L t ∧ wt_c T L w u ≤ w (L t)
theorem wt_s_v {T : cg_T} {L : Nat → Nat} {n : Nat} {p : cg_P} {t : Nat} (ht : t < n) (h : wt_v T L n p.1) : wt_v T L n (wt_s T L p t).1 := by
  have hle := wt_s_le (T := T) (L := L) (p := p) (t := t)
  by_cases c : wt_c T L p.1 t < p.1 (L t)
  · have e : wt_s T L p t = (wt_u p.1 (L t) (wt_c T L p.1 t), true) := if_pos c
    rw [e] at hle ⊢
    intro a ha
    by_cases q : L a = L t
    · refine Or.inr ⟨t, ht, q.symm, ?_⟩
      show wt_c T L (wt_u p.1 (L t) (wt_c T L p.1 t)) t ≤ wt_u p.1 (L t) (wt_c T L p.1 t) (L a)
      rw [q, wt_u_at]
      exact wt_c_le hle t
    · show wt_u p.1 (L t) (wt_c T L p.1 t) (L a) = 2 ^ 60 ∨ _
      rcases h a ha with g | ⟨u, h1, h2, h3⟩
      · left
        rw [wt_u_ne q]
        exact g
      · refine Or.inr ⟨u, h1, h2, ?_⟩
        show wt_c T L (wt_u p.1 (L t) (wt_c T L p.1 t)) u ≤ wt_u p.1 (L t) (wt_c T L p.1 t) (L a)
        rw [wt_u_ne q]
        exact Nat.le_trans (wt_c_le hle u) h3
  · have e : wt_s T L p t = p := if_neg c
    rw [e]
    exact h
theorem wt_o_v {T : cg_T} {L : Nat → Nat} {n : Nat} {p : cg_P} (h : wt_v T L n p.1) : ∀ m, m ≤ n → wt_v T L n (wt_o T L p m).1 := by
  intro m
  induction m with
  | zero => intro _; exact h
  | succ m ih => intro hm; exact wt_s_v (p := wt_o T L p m) (by omega) (ih (by omega))
theorem wt_i_v {T : cg_T} {L : Nat → Nat} {n : Nat} : ∀ k, wt_v T L n (wt_i T L n k) := by
  intro k
  induction k with
  | zero => intro t _; exact Or.inl rfl
  | succ k ih => exact wt_o_v (p := (wt_i T L n k, false)) ih n (Nat.le_refl _)
theorem wt_o_lo {T : cg_T} {L : Nat → Nat} {n : Nat} {F : Nat → Nat} (wf : cg_wf T n) (hF : wt_y T L n F) {p : cg_P} (h : ∀ t, t < n → F (L t) ≤ p.1 (L t)) : ∀ m, m ≤ n → ∀ t, t < n → F (L t) ≤ (wt_o T L p m).1 (L t) := by
  intro m
  induction m with
  | zero => intro _; exact h
  | succ m ih =>
    intro hm t ht
    have k := ih (by omega)
    by_cases c : wt_c T L (wt_o T L p m).1 m < (wt_o T L p m).1 (L m)
    · have e : wt_o T L p (m + 1) = (wt_u (wt_o T L p m).1 (L m) (wt_c T L (wt_o T L p m).1 m), true) := if_pos c
      rw [e]
      show F (L t) ≤ wt_u (wt_o T L p m).1 (L m) (wt_c T L (wt_o T L p m).1 m) (L t)
      by_cases q : L t = L m
      · rw [q, wt_u_at]
        have ar : ∀ x, x ≤ m → wt_a L F x ≤ wt_a L (wt_o T L p m).1 x := by
          intro x hx
          cases x with
          | zero => exact Nat.le_refl _
          | succ y => exact k y (by omega)
        have a := ar _ (wf m (by omega)).1
        have b := ar _ (wf m (by omega)).2
        refine Nat.le_trans (hF m (by omega)) ?_
        unfold wt_c
        omega
      · rw [wt_u_ne q]
        exact k t ht
    · have e : wt_o T L p (m + 1) = wt_o T L p m := if_neg c
      rw [e]
      exact k t ht
def wt_k (L F : Nat → Nat) (v : Nat) : Nat → Nat := cg_ct (fun t => decide (F (L t) < v))
theorem wt_k_lt {L F : Nat → Nat} {n a v : Nat} (ha : a < n) (h : F (L a) < v) : wt_k L F (F (L a)) n < wt_k L F v n := by
  refine cg_ct_lt (h := a) (by simpa using h) (by simp) n ha fun t _ ht => ?_
  have ht : F (L t) < F (L a) := by simpa using ht
  simpa using (Nat.lt_trans ht h)
theorem wt_k_n {L F : Nat → Nat} {n t : Nat} (ht : t < n) : wt_k L F (F (L t)) n < n := cg_ct_no (h := t) (by simp) n ht
/-- r rounds make right all weights below which fewer than r terms weigh less -/
theorem wt_cv {T : cg_T} {L F : Nat → Nat} {n : Nat} (wf : cg_wf T n) (hn : n ≤ 40) (hF : wt_y T L n F) (hv : wt_v T L n F) (hU : ∀ t, t < n → F (L t) ≤ 2 ^ 60) : ∀ r, (∀ t, t < n → F (L t) ≤ wt_i T L n r (L t)) ∧ ∀ t, t < n → wt_k L F (F (L t)) n < r → wt_i T L n r (L t) = F (L t) := by
  have hlt := wt_y_lt wf hF
  intro r
  induction r with
  | zero => exact ⟨hU, fun t _ h => absurd h (Nat.not_lt_zero _)⟩
  | succ r ih =>
    obtain ⟨lo, ex⟩ := ih
    have lo2 := wt_o_lo wf hF (p := (wt_i T L n r, false)) lo
    refine ⟨lo2 n (Nat.le_refl _), fun t ht hk => ?_⟩
    have hp : F (L t) < 2 ^ 60 := by
      refine Nat.lt_of_lt_of_le (hlt t ht) (Nat.pow_le_pow_right (by decide) ?_)
      omega
    rcases hv t ht with g | ⟨u, hu, e, hc⟩
    · omega
    · have hc2 : wt_c T L F u = F (L t) := Nat.le_antisymm hc (by rw [← e]; exact hF u hu)
      have ar : ∀ x, x ≤ u → wt_a L F x < F (L t) → wt_a L (wt_o T L (wt_i T L n r, false) u).1 x = wt_a L F x := by
        intro x hx hl
        cases x with
        | zero => rfl
        | succ y =>
          have hy : y < n := by omega
          have hl : F (L y) < F (L t) := hl
          have e1 := ex y hy (Nat.lt_of_lt_of_le (wt_k_lt (L := L) (F := F) hy hl) (by omega))
          have e2 := lo2 u (by omega) y hy
          have e3 := wt_o_l0 (T := T) (L := L) (p := (wt_i T L n r, false)) u (L y)
          have e3 : (wt_o T L (wt_i T L n r, false) u).1 (L y) ≤ wt_i T L n r (L y) := e3
          show (wt_o T L (wt_i T L n r, false) u).1 (L y) = F (L y)
          omega
      have a1 : wt_a L F (T.2.1 u) < F (L t) := by rw [← hc2]; unfold wt_c; omega
      have a2 : wt_a L F (T.2.2 u) < F (L t) := by rw [← hc2]; unfold wt_c; omega
      have b1 := ar _ (wf u hu).1 a1
      have b2 := ar _ (wf u hu).2 a2
      have cu : wt_c T L (wt_o T L (wt_i T L n r, false) u).1 u = F (L t) := by
        rw [← hc2]
        unfold wt_c
        rw [b1, b2]
      have s1 : (wt_o T L (wt_i T L n r, false) (u + 1)).1 (L u) ≤ F (L t) := by
        rw [← cu]
        exact wt_s_at (p := wt_o T L (wt_i T L n r, false) u)
      have s2 := wt_o_le (T := T) (L := L) (p := (wt_i T L n r, false)) (a := u + 1) (n - (u + 1)) (L u)
      rw [show u + 1 + (n - (u + 1)) = n by omega] at s2
      have s3 := lo2 n (Nat.le_refl _) t ht
      show (wt_o T L (wt_i T L n r, false) n).1 (L t) = F (L t)
      rw [e] at s1 s2
      omega
theorem wt_fin {T : cg_T} {L : Nat → Nat} {n : Nat} (wf : cg_wf T n) (hL : ∀ t, t < n → L t < n) (hn : n ≤ 40) : wt_y T L n (wt_f T L n) ∧ wt_v T L n (wt_f T L n) := by
  obtain ⟨j, hj⟩ := wt_i_ex (T := T) hL _ 0 (Nat.le_refl _)
  have hF := wt_x_y hj
  have hv := wt_i_v (T := T) (L := L) (n := n) j
  have c := (wt_cv wf hn hF hv (fun t _ => wt_i_u j (L t)) n).2
  have ag : ∀ t, t < n → wt_f T L n (L t) = wt_i T L n j (L t) := fun t ht => c t ht (wt_k_n ht)
  refine ⟨fun t ht => ?_, wt_i_v n⟩
  have ar : ∀ x, x ≤ t → wt_a L (wt_f T L n) x = wt_a L (wt_i T L n j) x := by
    intro x hx
    cases x with
    | zero => rfl
    | succ y => exact ag y (by omega)
  have k := hF t ht
  rw [ag t ht]
  unfold wt_c
  rw [ar _ (wf t ht).1, ar _ (wf t ht).2]
  exact k
theorem wt_fix {T : cg_T} {L : Nat → Nat} {n : Nat} (wf : cg_wf T n) (hL : ∀ t, t < n → L t < n) (hn : n ≤ 40) : wt_x T L n (wt_i T L n n) := wt_y_x (wt_fin wf hL hn).1
theorem wt_i_e {T : cg_T} {L : Nat → Nat} {n r : Nat} (wf : cg_wf T n) (hL : ∀ t, t < n → L t < n) (hn : n ≤ 40) (hr : wt_x T L n (wt_i T L n r) ∨ n ≤ r) : wt_i T L n r = wt_f T L n := by
  show wt_i T L n r = wt_i T L n n
  by_cases c : n ≤ r
  · have e := wt_i_j (wt_fix wf hL hn) (r - n)
    rw [show n + (r - n) = r by omega] at e
    exact e
  · rcases hr with hr | hr
    · have e := wt_i_j hr (n - r)
      rw [show r + (n - r) = n by omega] at e
      exact e.symm
    · exact absurd hr c
theorem wt_i_x {T : cg_T} {L : Nat → Nat} {n r : Nat} (hL : ∀ t, t < n → L t < n) (hb : (wt_r T L n (wt_i T L n r)).2 = false) : wt_x T L n (wt_i T L n (r + 1)) := by
  have e := wt_r_f hL hb
  rw [wt_i_s e]
  exact e
/-- bounds on the way: known weights are small and not 0 -/
def wt_B (L : Nat → Nat) (m : Nat) (w : Nat → Nat) : Prop := (∀ u, u < m → w (L u) < 2 ^ (u + 1)) ∧ ∀ j, w j = 2 ^ 60 ∨ (1 ≤ w j ∧ w j < 2 ^ 40)
theorem wt_s_B {T : cg_T} {L : Nat → Nat} {n : Nat} {p : cg_P} {t : Nat} (wf : cg_wf T n) (hn : n ≤ 40) (ht : t < n) (h : wt_B L t p.1) : wt_B L (t + 1) (wt_s T L p t).1 := by
  have hc := wt_c_lt (L := L) (w := p.1) wf ht h.1
  have hle := wt_s_le (T := T) (L := L) (p := p) (t := t)
  have hat := wt_s_at (T := T) (L := L) (p := p) (t := t)
  refine ⟨fun u hu => ?_, fun j => ?_⟩
  · by_cases q : u = t
    · rw [q]
      exact Nat.lt_of_le_of_lt hat hc
    · exact Nat.lt_of_le_of_lt (hle (L u)) (h.1 u (by omega))
  · by_cases c : wt_c T L p.1 t < p.1 (L t)
    · have e : wt_s T L p t = (wt_u p.1 (L t) (wt_c T L p.1 t), true) := if_pos c
      rw [e]
      show wt_u p.1 (L t) (wt_c T L p.1 t) j = 2 ^ 60 ∨ (1 ≤ wt_u p.1 (L t) (wt_c T L p.1 t) j ∧ wt_u p.1 (L t) (wt_c T L p.1 t) j < 2 ^ 40)
      by_cases q : j = L t
      · rw [q, wt_u_at]
        refine Or.inr ⟨by unfold wt_c; omega, Nat.lt_of_lt_of_le hc (Nat.pow_le_pow_right (by decide) (by omega))⟩
      · rw [wt_u_ne q]
        exact h.2 j
    · have e : wt_s T L p t = p := if_neg c
      rw [e]
      exact h.2 j
theorem wt_o_B {T : cg_T} {L : Nat → Nat} {n : Nat} {p : cg_P} (wf : cg_wf T n) (hn : n ≤ 40) (h : wt_B L 0 p.1) : ∀ m, m ≤ n → wt_B L m (wt_o T L p m).1 := by
  intro m
  induction m with
  | zero => intro _; exact h
  | succ m ih => intro hm; exact wt_s_B (p := wt_o T L p m) wf hn (by omega) (ih (by omega))
theorem wt_i_B {T : cg_T} {L : Nat → Nat} {n : Nat} (wf : cg_wf T n) (hn : n ≤ 40) : ∀ k, wt_B L 0 (wt_i T L n k) := by
  intro k
  induction k with
  | zero => exact ⟨fun u hu => absurd hu (Nat.not_lt_zero _), fun _ => Or.inl rfl⟩
  | succ k ih =>
    have a := wt_o_B (T := T) (p := (wt_i T L n k, false)) wf hn ih n (Nat.le_refl _)
    exact ⟨fun u hu => absurd hu (Nat.not_lt_zero _), a.2⟩
end
section
/-! ===== Int32 by its bits: bt x i ===== -/
def bt (x : Int32) (i : Nat) : Bool := x.toBitVec.getLsbD i
theorem b_ext {x y : Int32} (h : ∀ i, i < 32 → bt x i = bt y i) : x = y := Int32.toBitVec_inj.mp (BitVec.eq_of_getLsbD_eq (fun i hi => h i hi))
theorem b_or (x y : Int32) (i : Nat) : bt (x ||| y) i = (bt x i || bt y i) := by unfold bt; rw [Int32.toBitVec_or, BitVec.getLsbD_or]
theorem b_and (x y : Int32) (i : Nat) : bt (x &&& y) i = (bt x i && bt y i) := by unfold bt; rw [Int32.toBitVec_and, BitVec.getLsbD_and]
theorem b_xor (x y : Int32) (i : Nat) : bt (x ^^^ y) i = (bt x i ^^ bt y i) := by unfold bt; rw [Int32.toBitVec_xor, BitVec.getLsbD_xor]
theorem b_big {x : Int32} {i : Nat} (h : 32 ≤ i) : bt x i = false := BitVec.getLsbD_of_ge _ _ h
theorem b_255 (i : Nat) : bt 255 i = decide (i < 8) := by
  rcases Nat.lt_or_ge i 32 with h | h
  · exact (by decide +kernel : ∀ i, i < 32 → bt 255 i = decide (i < 8)) i h
  · rw [b_big h, decide_eq_false (by omega)]
theorem b_65535 (i : Nat) : bt 65535 i = decide (i < 16) := by
  rcases Nat.lt_or_ge i 32 with h | h
  · exact (by decide +kernel : ∀ i, i < 32 → bt 65535 i = decide (i < 16)) i h
  · rw [b_big h, decide_eq_false (by omega)]
theorem b_m1 : ∀ i, i < 32 → bt (-1) i = true := by decide +kernel
theorem b_0 (i : Nat) : bt 0 i = false := BitVec.getLsbD_zero
theorem s_l : ∀ n, n < 32 → ((nI n &&& 31).toBitVec.smod 32).toNat = n := by decide +kernel
theorem s_u : ∀ n, n < 32 → (((nI n).toUInt32 &&& Int32.toUInt32 31).toBitVec % 32).toNat = n := by decide +kernel
theorem b_shl (n : Nat) (hn : n < 32) (x : Int32) {i : Nat} (hi : i < 32) : bt (x <<< (nI n &&& 31)) i = (decide (n ≤ i) && bt x (i - n)) := by
  unfold bt
  rw [Int32.toBitVec_shiftLeft]
  show (x.toBitVec <<< ((nI n &&& 31).toBitVec.smod 32).toNat).getLsbD i = _
  rw [s_l n hn, BitVec.getLsbD_shiftLeft]
  rcases Nat.lt_or_ge i n with h | h
  · simp [h, Nat.not_le.mpr h]
  · simp [hi, h, Nat.not_lt.mpr h]
theorem b_ushr (n : Nat) (hn : n < 32) (x : Int32) (i : Nat) : bt ((x.toUInt32 >>> ((nI n).toUInt32 &&& Int32.toUInt32 31)).toInt32) i = bt x (n + i) := by
  show (x.toUInt32 >>> ((nI n).toUInt32 &&& Int32.toUInt32 31)).toBitVec.getLsbD i = x.toUInt32.toBitVec.getLsbD (n + i)
  rw [UInt32.toBitVec_shiftRight]
  show (x.toUInt32.toBitVec >>> (((nI n).toUInt32 &&& Int32.toUInt32 31).toBitVec % 32).toNat).getLsbD i = _
  rw [s_u n hn, BitVec.getLsbD_ushiftRight]
theorem b_sshr (n : Nat) (hn : n < 32) (x : Int32) {i : Nat} (hi : i < 32) : bt (x >>> (nI n &&& 31)) i = if n + i < 32 then bt x (n + i) else bt x 31 := by
  unfold bt
  rw [Int32.toBitVec_shiftRight]
  show (x.toBitVec.sshiftRight ((nI n &&& 31).toBitVec.smod 32).toNat).getLsbD i = _
  rw [s_l n hn, BitVec.getLsbD_sshiftRight, BitVec.msb_eq_getLsbD_last]
  simp [hi]
theorem b_shl8 (x : Int32) {i : Nat} (hi : i < 32) : bt (x <<< ((8 : Int32) &&& 31)) i = (decide (8 ≤ i) && bt x (i - 8)) := b_shl 8 (by omega) x hi
theorem b_shl16 (x : Int32) {i : Nat} (hi : i < 32) : bt (x <<< ((16 : Int32) &&& 31)) i = (decide (16 ≤ i) && bt x (i - 16)) := b_shl 16 (by omega) x hi
theorem b_shl24 (x : Int32) {i : Nat} (hi : i < 32) : bt (x <<< ((24 : Int32) &&& 31)) i = (decide (24 ≤ i) && bt x (i - 24)) := b_shl 24 (by omega) x hi
theorem b_sshr8 (x : Int32) {i : Nat} (hi : i < 32) : bt (x >>> ((8 : Int32) &&& 31)) i = if 8 + i < 32 then bt x (8 + i) else bt x 31 := b_sshr 8 (by omega) x hi
end
section
/-! the best term, the shortest writing -/
def wt_b (T : cg_T) (L : Nat → Nat) (n : Nat) (t : Nat) : Nat := cg_fs (fun u => decide (L u = L t) && decide (wt_c T L (wt_f T L n) u = wt_f T L n (L t))) n
theorem wt_b_p {T : cg_T} {L : Nat → Nat} {n t : Nat} (wf : cg_wf T n) (hL : ∀ t, t < n → L t < n) (hn : n ≤ 40) (ht : t < n) : wt_b T L n t < n ∧ L (wt_b T L n t) = L t ∧ wt_c T L (wt_f T L n) (wt_b T L n t) = wt_f T L n (L t) := by
  obtain ⟨hy, hv⟩ := wt_fin wf hL hn
  have hlt := wt_y_lt wf hy t ht
  have hlt2 : wt_f T L n (L t) < 2 ^ 60 := Nat.lt_of_lt_of_le hlt (Nat.pow_le_pow_right (by decide) (by omega))
  rcases hv t ht with g | ⟨u, hu, e, hc⟩
  · omega
  · have hc2 : wt_c T L (wt_f T L n) u = wt_f T L n (L t) := Nat.le_antisymm hc (by rw [← e]; exact hy u hu)
    have hlt3 : wt_b T L n t < n := by
      by_cases c : wt_b T L n t < n
      · exact c
      · obtain ⟨v, h1, h2⟩ := cg_least (fun v => L v = L t ∧ wt_c T L (wt_f T L n) v = wt_f T L n (L t)) ⟨u, e, hc2⟩
        have hvu : v ≤ u := Nat.le_of_not_lt fun q => h2 u q ⟨e, hc2⟩
        have k : wt_b T L n t = v := cg_fs_at (by simp [h1.1, h1.2]) (fun x hx => by
          have q := h2 x hx
          simp only [Bool.and_eq_false_iff, decide_eq_false_iff_not]
          by_cases q1 : L x = L t
          · exact Or.inr fun q2 => q ⟨q1, q2⟩
          · exact Or.inl q1) n (by omega)
        omega
    have k := (cg_fs_p n hlt3).1
    simp only [Bool.and_eq_true, decide_eq_true_eq] at k
    exact ⟨hlt3, k.1, k.2⟩
def wt_n (T : cg_T) (L : Nat → Nat) (n : Nat) (q : Nat × Nat) : Nat × Nat :=
  if q.2 = 0 then q else if wt_a L (wt_f T L n) (T.2.1 q.1) ≤ q.2 - 1 then (wt_b T L n (T.2.2 q.1 - 1), q.2 - 1 - wt_a L (wt_f T L n) (T.2.1 q.1)) else (wt_b T L n (T.2.1 q.1 - 1), q.2 - 1)
def wt_w (T : cg_T) (L : Nat → Nat) (n : Nat) (q : Nat × Nat) : Nat → Nat × Nat
  | 0 => q
  | k + 1 => wt_n T L n (wt_w T L n q k)
/-- on the way down: a best term, and a place within its weight -/
def wt_g (T : cg_T) (L : Nat → Nat) (n : Nat) (q : Nat × Nat) : Prop := q.1 < n ∧ wt_c T L (wt_f T L n) q.1 = wt_f T L n (L q.1) ∧ q.2 < wt_f T L n (L q.1)
theorem wt_n_g {T : cg_T} {L : Nat → Nat} {n : Nat} (wf : cg_wf T n) (hL : ∀ t, t < n → L t < n) (hn : n ≤ 40) {q : Nat × Nat} (h : wt_g T L n q) (h0 : ¬ q.2 = 0) :
    (wt_a L (wt_f T L n) (T.2.1 q.1) ≤ q.2 - 1 → ¬ T.2.2 q.1 = 0) ∧ (¬ wt_a L (wt_f T L n) (T.2.1 q.1) ≤ q.2 - 1 → ¬ T.2.1 q.1 = 0) ∧ wt_g T L n (wt_n T L n q) ∧ (wt_n T L n q).2 < q.2 ∧ wt_f T L n (L (wt_n T L n q).1) < wt_f T L n (L q.1) := by
  obtain ⟨hq, hc, hl⟩ := h
  have w1 := (wf q.1 hq).1
  have w2 := (wf q.1 hq).2
  have hc1 : 1 + wt_a L (wt_f T L n) (T.2.1 q.1) + wt_a L (wt_f T L n) (T.2.2 q.1) = wt_f T L n (L q.1) := hc
  by_cases c : wt_a L (wt_f T L n) (T.2.1 q.1) ≤ q.2 - 1
  · have e : wt_n T L n q = (wt_b T L n (T.2.2 q.1 - 1), q.2 - 1 - wt_a L (wt_f T L n) (T.2.1 q.1)) := by
      unfold wt_n
      rw [if_neg h0, if_pos c]
    rw [e]
    have ne : ¬ T.2.2 q.1 = 0 := by
      intro z
      have z2 : wt_a L (wt_f T L n) (T.2.2 q.1) = 0 := by rw [z]; rfl
      omega
    obtain ⟨y, hy⟩ : ∃ y, T.2.2 q.1 = y + 1 := ⟨T.2.2 q.1 - 1, by omega⟩
    have hya : wt_a L (wt_f T L n) (T.2.2 q.1) = wt_f T L n (L y) := by rw [hy]; rfl
    obtain ⟨b1, b2, b3⟩ := wt_b_p (T := T) (t := T.2.2 q.1 - 1) wf hL hn (by omega)
    have hy2 : T.2.2 q.1 - 1 = y := by omega
    rw [hy2] at b1 b2 b3 ⊢
    refine ⟨fun _ => ne, fun z => absurd c z, ⟨b1, by rw [b3, b2], ?_⟩, ?_, ?_⟩
    · show q.2 - 1 - wt_a L (wt_f T L n) (T.2.1 q.1) < wt_f T L n (L (wt_b T L n y))
      rw [b2]
      omega
    · show q.2 - 1 - wt_a L (wt_f T L n) (T.2.1 q.1) < q.2
      omega
    · show wt_f T L n (L (wt_b T L n y)) < wt_f T L n (L q.1)
      rw [b2]
      omega
  · have e : wt_n T L n q = (wt_b T L n (T.2.1 q.1 - 1), q.2 - 1) := by
      unfold wt_n
      rw [if_neg h0, if_neg c]
    rw [e]
    have ne : ¬ T.2.1 q.1 = 0 := by
      intro z
      have z2 : wt_a L (wt_f T L n) (T.2.1 q.1) = 0 := by rw [z]; rfl
      omega
    obtain ⟨y, hy⟩ : ∃ y, T.2.1 q.1 = y + 1 := ⟨T.2.1 q.1 - 1, by omega⟩
    have hya : wt_a L (wt_f T L n) (T.2.1 q.1) = wt_f T L n (L y) := by rw [hy]; rfl
    obtain ⟨b1, b2, b3⟩ := wt_b_p (T := T) (t := T.2.1 q.1 - 1) wf hL hn (by omega)
    have hy2 : T.2.1 q.1 - 1 = y := by omega
    rw [hy2] at b1 b2 b3 ⊢
    refine ⟨fun z => absurd z c, fun _ => ne, ⟨b1, by rw [b3, b2], ?_⟩, ?_, ?_⟩
    · show q.2 - 1 < wt_f T L n (L (wt_b T L n y))
      rw [b2]
      omega
    · show q.2 - 1 < q.2
      omega
    · show wt_f T L n (L (wt_b T L n y)) < wt_f T L n (L q.1)
      rw [b2]
      omega
theorem wt_w_g {T : cg_T} {L : Nat → Nat} {n : Nat} (wf : cg_wf T n) (hL : ∀ t, t < n → L t < n) (hn : n ≤ 40) {q : Nat × Nat} (h : wt_g T L n q) : ∀ k, wt_g T L n (wt_w T L n q k) ∧ ((wt_w T L n q k).2 = 0 ∨ k + wt_k L (wt_f T L n) (wt_f T L n (L (wt_w T L n q k).1)) n < n) := by
  intro k
  induction k with
  | zero => exact ⟨h, Or.inr (by show 0 + _ < n; rw [Nat.zero_add]; exact wt_k_n h.1)⟩
  | succ k ih =>
    obtain ⟨a, b⟩ := ih
    by_cases c : (wt_w T L n q k).2 = 0
    · have e : wt_w T L n q (k + 1) = wt_w T L n q k := if_pos c
      rw [e]
      exact ⟨a, Or.inl c⟩
    · obtain ⟨_, _, g, _, hd⟩ := wt_n_g wf hL hn a c
      refine ⟨g, Or.inr ?_⟩
      rcases b with b | b
      · exact absurd b c
      · have d := wt_k_lt (L := L) (F := wt_f T L n) (n := n) (a := (wt_n T L n (wt_w T L n q k)).1) g.1 hd
        show k + 1 + wt_k L (wt_f T L n) (wt_f T L n (L (wt_n T L n (wt_w T L n q k)).1)) n < n
        omega
theorem wt_w_z {T : cg_T} {L : Nat → Nat} {n : Nat} {q : Nat × Nat} {k : Nat} (h : (wt_w T L n q k).2 = 0) : ∀ j, wt_w T L n q (k + j) = wt_w T L n q k := by
  intro j
  induction j with
  | zero => rfl
  | succ j ih =>
    have e : wt_w T L n q (k + j + 1) = wt_w T L n q (k + j) := if_pos (by rw [ih]; exact h)
    exact e.trans ih
/-- the way down ends within 40 steps -/
theorem wt_w_e {T : cg_T} {L : Nat → Nat} {n : Nat} (wf : cg_wf T n) (hL : ∀ t, t < n → L t < n) (hn : n ≤ 40) {q : Nat × Nat} (h : wt_g T L n q) {r : Nat} (hr : (wt_w T L n q r).2 = 0 ∨ 40 ≤ r) : wt_w T L n q r = wt_w T L n q 40 := by
  have z : (wt_w T L n q 40).2 = 0 := by
    rcases (wt_w_g wf hL hn h 40).2 with e | e
    · exact e
    · omega
  by_cases c : 40 ≤ r
  · have e := wt_w_z z (r - 40)
    rw [show 40 + (r - 40) = r by omega] at e
    exact e
  · rcases hr with hr | hr
    · have e := wt_w_z hr (40 - r)
      rw [show r + (40 - r) = 40 by omega] at e
      exact e.symm
    · exact absurd hr c
/-- the symbol at a place of the shortest writing -/
def wt_y4 (T : cg_T) (L : Nat → Nat) (n t k : Nat) : Int32 := T.1 (wt_w T L n (wt_b T L n t, k) 40).1
/-! the explanation: J says whether a choice of equations joins; x holds the choice as bits -/
def cg_bw (x : Int32) (k : Nat) : Nat → Bool := fun j => bt x j || decide (j < k)
def cg_xp (J : (Nat → Bool) → Bool) : Nat → Int32 → Int32
  | 0, x => x
  | i + 1, x => if J (cg_bw x i) = true then cg_xp J i x else cg_xp J i (x ||| ((1 : Int32) <<< (nI i &&& 31)))
theorem cg_xp_sk {J : (Nat → Bool) → Bool} {x : Int32} {k : Nat} : ∀ i, k ≤ i → (∀ j, k ≤ j → j < i → J (cg_bw x j) = true) → cg_xp J i x = cg_xp J k x := by
  intro i
  induction i with
  | zero => intro h _; rw [Nat.le_zero.mp h]
  | succ i ih =>
    intro h hj
    by_cases e : k = i + 1
    · rw [e]
    · have a : cg_xp J (i + 1) x = cg_xp J i x := if_pos (hj i (by omega) (by omega))
      rw [a]
      exact ih (by omega) (fun j h1 h2 => hj j h1 (by omega))
theorem cg_xp_ad {J : (Nat → Bool) → Bool} {x : Int32} {i : Nat} (h : ¬ J (cg_bw x i) = true) : cg_xp J (i + 1) x = cg_xp J i (x ||| ((1 : Int32) <<< (nI i &&& 31))) := if_neg h
/-! labels that agree below n give the same weights -/
theorem wt_a_ag {L L' w : Nat → Nat} {n x : Nat} (h : ∀ t, t < n → L t = L' t) (hx : x ≤ n) : wt_a L w x = wt_a L' w x := by
  cases x with
  | zero => rfl
  | succ k =>
    show w (L k) = w (L' k)
    rw [h k (by omega)]
theorem wt_c_ag {T : cg_T} {L L' w : Nat → Nat} {n t : Nat} (wf : cg_wf T n) (h : ∀ t, t < n → L t = L' t) (ht : t < n) : wt_c T L w t = wt_c T L' w t := by
  have a := wf t ht
  unfold wt_c
  rw [wt_a_ag h (by omega), wt_a_ag h (by omega)]
theorem wt_o_ag {T : cg_T} {L L' : Nat → Nat} {n : Nat} {p : cg_P} (wf : cg_wf T n) (h : ∀ t, t < n → L t = L' t) : ∀ m, m ≤ n → wt_o T L p m = wt_o T L' p m := by
  intro m
  induction m with
  | zero => intro _; rfl
  | succ m ih =>
    intro hm
    show wt_s T L (wt_o T L p m) m = wt_s T L' (wt_o T L' p m) m
    rw [ih (by omega)]
    unfold wt_s
    rw [wt_c_ag wf h (by omega), h m (by omega)]
theorem wt_i_ag {T : cg_T} {L L' : Nat → Nat} {n : Nat} (wf : cg_wf T n) (h : ∀ t, t < n → L t = L' t) : ∀ k, wt_i T L n k = wt_i T L' n k := by
  intro k
  induction k with
  | zero => rfl
  | succ k ih =>
    show (wt_o T L (wt_i T L n k, false) n).1 = (wt_o T L' (wt_i T L' n k, false) n).1
    rw [ih, wt_o_ag wf h n (Nat.le_refl _)]
theorem wt_f_ag {T : cg_T} {L L' : Nat → Nat} {n : Nat} (wf : cg_wf T n) (h : ∀ t, t < n → L t = L' t) : wt_f T L n = wt_f T L' n := wt_i_ag wf h n
theorem cg_fs_ag {P P' : Nat → Bool} : ∀ n, (∀ v, v < n → P v = P' v) → cg_fs P n = cg_fs P' n := by
  intro n
  induction n with
  | zero => intro _; rfl
  | succ n ih =>
    intro h
    show (if cg_fs P n < n then cg_fs P n else if P n = true then n else n + 1) = (if cg_fs P' n < n then cg_fs P' n else if P' n = true then n else n + 1)
    rw [ih (fun v hv => h v (by omega)), h n (by omega)]
theorem cg_ct_ag {P P' : Nat → Bool} : ∀ n, (∀ v, v < n → P v = P' v) → cg_ct P n = cg_ct P' n := by
  intro n
  induction n with
  | zero => intro _; rfl
  | succ n ih =>
    intro h
    show cg_ct P n + (if P n = true then 1 else 0) = cg_ct P' n + (if P' n = true then 1 else 0)
    rw [ih (fun v hv => h v (by omega)), h n (by omega)]
theorem cg_cn_ag {f g : Nat → Nat} : ∀ n, (∀ v, v < n → f v = g v) → cg_cn f n = cg_cn g n := by
  intro n
  induction n with
  | zero => intro _; rfl
  | succ n ih =>
    intro h
    show cg_cn f n + (if f n = n then 1 else 0) = cg_cn g n + (if g n = n then 1 else 0)
    rw [ih (fun v hv => h v (by omega)), h n (by omega)]
theorem wt_b_ag {T : cg_T} {L L' : Nat → Nat} {n t : Nat} (wf : cg_wf T n) (h : ∀ t, t < n → L t = L' t) (ht : t < n) : wt_b T L n t = wt_b T L' n t := by
  refine cg_fs_ag n fun v hv => ?_
  rw [h v hv, h t ht, wt_f_ag wf h, wt_c_ag wf h hv]
/-! the state of the ledger: terms, equations, disequations, levels -/
abbrev cg_S : Type := (Nat × (Nat → Int32) × (Nat → Nat) × (Nat → Nat)) × (Nat × (Nat → Nat) × (Nat → Nat)) × (Nat × (Nat → Nat) × (Nat → Nat)) × (Nat × (Nat → Nat) × (Nat → Nat) × (Nat → Nat))
def cg_WT (n : Nat) (F E : Nat → Nat) : Prop := n ≤ 40 ∧ ∀ t, t < n → F t ≤ t ∧ E t ≤ t
/-- terms, equations, disequations as they are, and as they were when each level was opened -/
def cg_WF (n : Nat) (F E : Nat → Nat) (k : Nat) (lf rt : Nat → Nat) (d : Nat) (on ot : Nat → Nat) (dp : Nat) (ct st dt : Nat → Nat) : Prop :=
  cg_WT n F E ∧ k ≤ 24 ∧ cg_we n lf rt k ∧ d ≤ 16 ∧ cg_we n on ot d ∧ dp ≤ 6 ∧
  (∀ j, j < dp → ct j ≤ n ∧ st j ≤ k ∧ dt j ≤ d ∧ cg_we (ct j) lf rt (st j) ∧ cg_we (ct j) on ot (dt j)) ∧
  (∀ i j, i < j → j < dp → ct i ≤ ct j ∧ st i ≤ st j ∧ dt i ≤ dt j)
end
section
/-! rows of my own over the kit's: numbers as Nat, loops, joins, calls -/
/-- an argument of a term, coded: 0 is NONE, k + 1 the term k -/
def aI (x : Nat) : Int32 := match x with
  | 0 => -1
  | k + 1 => nI k
def bI (b : Bool) : Int32 := match b with
  | true => 1
  | false => 0
def cI (g : Nat → Nat) : Nat → Int32 := fun j => nI (g j)
def cA (g : Nat → Nat) : Nat → Int32 := fun j => aI (g j)
def cL (g : Nat → Nat) : Nat → Int64 := fun j => lN (g j)
theorem cI_u {g : Nat → Nat} {k y : Nat} : upd (cI g) k (nI y) = cI (wt_u g k y) := by
  funext j
  unfold upd cI wt_u
  by_cases e : j = k
  · rw [if_pos e, if_pos e]
  · rw [if_neg e, if_neg e]
theorem cA_u {g : Nat → Nat} {k y : Nat} : upd (cA g) k (aI y) = cA (wt_u g k y) := by
  funext j
  unfold upd cA wt_u
  by_cases e : j = k
  · rw [if_pos e, if_pos e]
  · rw [if_neg e, if_neg e]
theorem cL_u {g : Nat → Nat} {k y : Nat} : vp_updL (cL g) k (lN y) = cL (wt_u g k y) := by
  funext j
  unfold vp_updL cL wt_u
  by_cases e : j = k
  · rw [if_pos e, if_pos e]
  · rw [if_neg e, if_neg e]
theorem aI_0 {x : Nat} (hx : x ≤ 2 ^ 31) : aI x = -1 ↔ x = 0 := by
  cases x with
  | zero => exact ⟨fun _ => rfl, fun _ => rfl⟩
  | succ k =>
    refine ⟨fun h => ?_, fun h => absurd h (by omega)⟩
    have a : (nI k).toInt = ((-1 : Int32)).toInt := congrArg Int32.toInt (show nI k = -1 from h)
    rw [nI_toInt (by omega)] at a
    have b : ((-1 : Int32)).toInt = -1 := by decide
    omega
theorem aI_lt {x : Nat} (hx : x ≤ 2 ^ 31) : aI x < 0 ↔ x = 0 := by
  cases x with
  | zero => exact ⟨fun _ => rfl, fun _ => by decide⟩
  | succ k => exact ⟨fun h => absurd h (nI_pos (by omega)), fun h => absurd h (by omega)⟩
theorem aI_eq {x y : Nat} (hx : x ≤ 2 ^ 31) (hy : y ≤ 2 ^ 31) : aI x = aI y ↔ x = y := by
  cases x with
  | zero =>
    cases y with
    | zero => exact ⟨fun _ => rfl, fun _ => rfl⟩
    | succ k => exact ⟨fun h => absurd ((aI_0 hy).mp h.symm) (by omega), fun h => absurd h (by omega)⟩
  | succ j =>
    cases y with
    | zero => exact ⟨fun h => absurd ((aI_0 hx).mp h) (by omega), fun h => absurd h (by omega)⟩
    | succ k =>
      show nI j = nI k ↔ _
      rw [nI_eq (by omega) (by omega)]
      omega
section CX
variable {p : Program} {l : Launch} {e : Env} {R : Room} {s : State} {m : MethodId} {args : Array Value} {below : List Frame} {meth : Method} {c : Code} {H : Heap} {locs : List Loc} {cells slots : Nat} {Q : State → Prop}
variable {cc : ByteArray} {pc : Nat} {ls : Array Slot} {rest : List Value} {D : va_G} {cl : List vw_C} {A : Nat → Prop} {a : Nat} {tys : List (ClassId × FieldType)} {ws : va_W} {H0 : Heap}
theorem cx_loop {σ : Type} {st : List Value} (I : σ → Heap → List Loc → Array Slot → Prop) (μ : σ → Nat)
    (hs : ∀ (a : σ) (H : Heap) (locs : List Loc) (ls : Array Slot), I a H locs ls → (∀ (b : σ) (H' : Heap) (locs' : List Loc) (ls' : Array Slot), I b H' locs' ls' → μ b < μ a → W p l e R s m args below meth c H' locs' cells slots Q (F0 m pc ls' st)) → W p l e R s m args below meth c H locs cells slots Q (F0 m pc ls st))
    (a : σ) (h : I a H locs ls) : W p l e R s m args below meth c H locs cells slots Q (F0 m pc ls st) := by
  have key : ∀ (n : Nat) (a : σ) (H : Heap) (locs : List Loc) (ls : Array Slot), μ a < n → I a H locs ls → W p l e R s m args below meth c H locs cells slots Q (F0 m pc ls st) := by
    intro n
    induction n with
    | zero => intro a _ _ _ h; omega
    | succ n ih =>
      intro a H locs ls h hI
      exact hs a H locs ls hI (fun b H' locs' ls' hI' hlt => ih b H' locs' ls' (by omega) hI')
  exact key (μ a + 1) a H locs ls (by omega) h
/-- the same where the heap stays -/
theorem cx_loopR {σ : Type} {st : List Value} (I : σ → Array Slot → Prop) (μ : σ → Nat)
    (hs : ∀ (a : σ) (ls : Array Slot), I a ls → (∀ (b : σ) (ls' : Array Slot), I b ls' → μ b < μ a → W p l e R s m args below meth c H locs cells slots Q (F0 m pc ls' st)) → W p l e R s m args below meth c H locs cells slots Q (F0 m pc ls st))
    (a : σ) (h : I a ls) : W p l e R s m args below meth c H locs cells slots Q (F0 m pc ls st) := by
  have key : ∀ (n : Nat) (a : σ) (ls : Array Slot), μ a < n → I a ls → W p l e R s m args below meth c H locs cells slots Q (F0 m pc ls st) := by
    intro n
    induction n with
    | zero => intro a _ h; omega
    | succ n ih =>
      intro a ls h hI
      exact hs a ls hI (fun b ls' hI' hlt => ih b ls' (by omega) hI')
  exact key (μ a + 1) a ls (by omega) h
theorem cx_join {σ : Type} {g : JFrame} (pc2 : Nat) (st2 : σ → List Value) (I : σ → Heap → List Loc → Array Slot → Prop)
    (k2 : (∀ (a : σ) (H : Heap) (locs : List Loc) (ls : Array Slot), I a H locs ls → W p l e R s m args below meth c H locs cells slots Q (F0 m pc2 ls (st2 a))) → W p l e R s m args below meth c H locs cells slots Q g)
    (k1 : ∀ (a : σ) (H : Heap) (locs : List Loc) (ls : Array Slot), I a H locs ls → W p l e R s m args below meth c H locs cells slots Q (F0 m pc2 ls (st2 a))) : W p l e R s m args below meth c H locs cells slots Q g := k2 k1
theorem cx_joinR {σ : Type} {g : JFrame} (pc2 : Nat) (st2 : σ → List Value) (I : σ → Array Slot → Prop)
    (k2 : (∀ (a : σ) (ls : Array Slot), I a ls → W p l e R s m args below meth c H locs cells slots Q (F0 m pc2 ls (st2 a))) → W p l e R s m args below meth c H locs cells slots Q g)
    (k1 : ∀ (a : σ) (ls : Array Slot), I a ls → W p l e R s m args below meth c H locs cells slots Q (F0 m pc2 ls (st2 a))) : W p l e R s m args below meth c H locs cells slots Q g := k2 k1
-- branches over Nat
theorem cx_ge (hexec : p.tables.exec = Jvm.exec) (hb : c.code = cc) {x y : Nat} {off : Int} {tgt : Nat} (hdg : decode cc pc = .ok (.if_icmp .ge off, 3)) (ht : (pc : Int) + off = (tgt : Int)) (hx : x < 2 ^ 31) (hy : y < 2 ^ 31)
    (kt : y ≤ x → W p l e R s m args below meth c H locs cells slots Q (F0 m tgt ls rest)) (kf : x < y → W p l e R s m args below meth c H locs cells slots Q (F0 m (pc + 3) ls rest)) : W p l e R s m args below meth c H locs cells slots Q (F0 m pc ls (.int (nI y) :: .int (nI x) :: rest)) :=
  lv_icmp_ge hexec hb hdg ht (fun h => kt ((nI_leI hy hx).mp h)) (fun h => kf (Nat.lt_of_not_le fun q => h ((nI_leI hy hx).mpr q)))
theorem cx_lt (hexec : p.tables.exec = Jvm.exec) (hb : c.code = cc) {x y : Nat} {off : Int} {tgt : Nat} (hdg : decode cc pc = .ok (.if_icmp .lt off, 3)) (ht : (pc : Int) + off = (tgt : Int)) (hx : x < 2 ^ 31) (hy : y < 2 ^ 31)
    (kt : x < y → W p l e R s m args below meth c H locs cells slots Q (F0 m tgt ls rest)) (kf : y ≤ x → W p l e R s m args below meth c H locs cells slots Q (F0 m (pc + 3) ls rest)) : W p l e R s m args below meth c H locs cells slots Q (F0 m pc ls (.int (nI y) :: .int (nI x) :: rest)) :=
  lv_icmp_lt hexec hb hdg ht (fun h => kt ((nI_ltI hx hy).mp h)) (fun h => kf (Nat.le_of_not_lt fun q => h ((nI_ltI hx hy).mpr q)))
theorem cx_le (hexec : p.tables.exec = Jvm.exec) (hb : c.code = cc) {x y : Nat} {off : Int} {tgt : Nat} (hdg : decode cc pc = .ok (.if_icmp .le off, 3)) (ht : (pc : Int) + off = (tgt : Int)) (hx : x < 2 ^ 31) (hy : y < 2 ^ 31)
    (kt : x ≤ y → W p l e R s m args below meth c H locs cells slots Q (F0 m tgt ls rest)) (kf : y < x → W p l e R s m args below meth c H locs cells slots Q (F0 m (pc + 3) ls rest)) : W p l e R s m args below meth c H locs cells slots Q (F0 m pc ls (.int (nI y) :: .int (nI x) :: rest)) :=
  lv_icmp_le hexec hb hdg ht (fun h => kt ((nI_leI hx hy).mp h)) (fun h => kf (Nat.lt_of_not_le fun q => h ((nI_leI hx hy).mpr q)))
theorem cx_gt (hexec : p.tables.exec = Jvm.exec) (hb : c.code = cc) {x y : Nat} {off : Int} {tgt : Nat} (hdg : decode cc pc = .ok (.if_icmp .gt off, 3)) (ht : (pc : Int) + off = (tgt : Int)) (hx : x < 2 ^ 31) (hy : y < 2 ^ 31)
    (kt : y < x → W p l e R s m args below meth c H locs cells slots Q (F0 m tgt ls rest)) (kf : x ≤ y → W p l e R s m args below meth c H locs cells slots Q (F0 m (pc + 3) ls rest)) : W p l e R s m args below meth c H locs cells slots Q (F0 m pc ls (.int (nI y) :: .int (nI x) :: rest)) :=
  lv_icmp_gt hexec hb hdg ht (fun h => kt ((nI_ltI hy hx).mp h)) (fun h => kf (Nat.le_of_not_lt fun q => h ((nI_ltI hy hx).mpr q)))
theorem cx_eq (hexec : p.tables.exec = Jvm.exec) (hb : c.code = cc) {x y : Nat} {off : Int} {tgt : Nat} (hdg : decode cc pc = .ok (.if_icmp .eq off, 3)) (ht : (pc : Int) + off = (tgt : Int)) (hx : x < 2 ^ 31) (hy : y < 2 ^ 31)
    (kt : x = y → W p l e R s m args below meth c H locs cells slots Q (F0 m tgt ls rest)) (kf : ¬ x = y → W p l e R s m args below meth c H locs cells slots Q (F0 m (pc + 3) ls rest)) : W p l e R s m args below meth c H locs cells slots Q (F0 m pc ls (.int (nI y) :: .int (nI x) :: rest)) :=
  lv_icmp_eq hexec hb hdg ht (fun h => kt ((nI_eq hx hy).mp h)) (fun h => kf fun q => h ((nI_eq hx hy).mpr q))
theorem cx_ne (hexec : p.tables.exec = Jvm.exec) (hb : c.code = cc) {x y : Nat} {off : Int} {tgt : Nat} (hdg : decode cc pc = .ok (.if_icmp .ne off, 3)) (ht : (pc : Int) + off = (tgt : Int)) (hx : x < 2 ^ 31) (hy : y < 2 ^ 31)
    (kt : ¬ x = y → W p l e R s m args below meth c H locs cells slots Q (F0 m tgt ls rest)) (kf : x = y → W p l e R s m args below meth c H locs cells slots Q (F0 m (pc + 3) ls rest)) : W p l e R s m args below meth c H locs cells slots Q (F0 m pc ls (.int (nI y) :: .int (nI x) :: rest)) :=
  lv_icmp_ne hexec hb hdg ht (fun h => kt fun q => h ((nI_eq hx hy).mpr q)) (fun h => kf ((nI_eq hx hy).mp h))
-- a coded argument against another, or against NONE
theorem cx_aeq (hexec : p.tables.exec = Jvm.exec) (hb : c.code = cc) {x y : Nat} {off : Int} {tgt : Nat} (hdg : decode cc pc = .ok (.if_icmp .eq off, 3)) (ht : (pc : Int) + off = (tgt : Int)) (hx : x ≤ 2 ^ 31) (hy : y ≤ 2 ^ 31)
    (kt : x = y → W p l e R s m args below meth c H locs cells slots Q (F0 m tgt ls rest)) (kf : ¬ x = y → W p l e R s m args below meth c H locs cells slots Q (F0 m (pc + 3) ls rest)) : W p l e R s m args below meth c H locs cells slots Q (F0 m pc ls (.int (aI y) :: .int (aI x) :: rest)) :=
  lv_icmp_eq hexec hb hdg ht (fun h => kt ((aI_eq hx hy).mp h)) (fun h => kf fun q => h ((aI_eq hx hy).mpr q))
theorem cx_ane (hexec : p.tables.exec = Jvm.exec) (hb : c.code = cc) {x y : Nat} {off : Int} {tgt : Nat} (hdg : decode cc pc = .ok (.if_icmp .ne off, 3)) (ht : (pc : Int) + off = (tgt : Int)) (hx : x ≤ 2 ^ 31) (hy : y ≤ 2 ^ 31)
    (kt : ¬ x = y → W p l e R s m args below meth c H locs cells slots Q (F0 m tgt ls rest)) (kf : x = y → W p l e R s m args below meth c H locs cells slots Q (F0 m (pc + 3) ls rest)) : W p l e R s m args below meth c H locs cells slots Q (F0 m pc ls (.int (aI y) :: .int (aI x) :: rest)) :=
  lv_icmp_ne hexec hb hdg ht (fun h => kt fun q => h ((aI_eq hx hy).mpr q)) (fun h => kf ((aI_eq hx hy).mp h))
theorem cx_alt (hexec : p.tables.exec = Jvm.exec) (hb : c.code = cc) {x : Nat} {off : Int} {tgt : Nat} (hdg : decode cc pc = .ok (.ifCond .lt off, 3)) (ht : (pc : Int) + off = (tgt : Int)) (hx : x ≤ 2 ^ 31)
    (kt : x = 0 → W p l e R s m args below meth c H locs cells slots Q (F0 m tgt ls rest)) (kf : ¬ x = 0 → W p l e R s m args below meth c H locs cells slots Q (F0 m (pc + 3) ls rest)) : W p l e R s m args below meth c H locs cells slots Q (F0 m pc ls (.int (aI x) :: rest)) :=
  lv_if_lt hexec hb hdg ht (fun h => kt ((aI_lt hx).mp h)) (fun h => kf fun q => h ((aI_lt hx).mpr q))
-- truth values
theorem cx_if0 (hexec : p.tables.exec = Jvm.exec) (hb : c.code = cc) {b : Bool} {off : Int} {tgt : Nat} (hdg : decode cc pc = .ok (.ifCond .eq off, 3)) (ht : (pc : Int) + off = (tgt : Int))
    (kt : b = false → W p l e R s m args below meth c H locs cells slots Q (F0 m tgt ls rest)) (kf : b = true → W p l e R s m args below meth c H locs cells slots Q (F0 m (pc + 3) ls rest)) : W p l e R s m args below meth c H locs cells slots Q (F0 m pc ls (.int (bI b) :: rest)) :=
  lv_if_eq hexec hb hdg ht (fun h => kt (by cases b with | false => rfl | true => exact absurd h (by decide))) (fun h => kf (by cases b with | true => rfl | false => exact absurd rfl h))
theorem cx_if1 (hexec : p.tables.exec = Jvm.exec) (hb : c.code = cc) {b : Bool} {off : Int} {tgt : Nat} (hdg : decode cc pc = .ok (.ifCond .ne off, 3)) (ht : (pc : Int) + off = (tgt : Int))
    (kt : b = true → W p l e R s m args below meth c H locs cells slots Q (F0 m tgt ls rest)) (kf : b = false → W p l e R s m args below meth c H locs cells slots Q (F0 m (pc + 3) ls rest)) : W p l e R s m args below meth c H locs cells slots Q (F0 m pc ls (.int (bI b) :: rest)) :=
  lv_if_ne hexec hb hdg ht (fun h => kt (by cases b with | true => rfl | false => exact absurd rfl h)) (fun h => kf (by cases b with | false => rfl | true => exact absurd h (by decide)))
-- arrays at a Nat
theorem cx_iald (hexec : p.tables.exec = Jvm.exec) (hb : c.code = cc) (hK : va_K D cl tys s) (hP : va_P D cl ws H) (q0 t0 : Nat) {cA : ClassId} {n : Nat} {f : Nat → Int32} (ha : ws[q0]? = some (a, .inl (cA, n, .inl f))) (ht : tys[t0]? = some (cA, .int)) {i : Nat} (hn : n < 2 ^ 31) {v : Int32} (hv : f i = v) (hi : i < n) (hdg : decode cc pc = .ok (.iaload, 1))
    (kk : W p l e R s m args below meth c H locs cells slots Q (F0 m (pc + 1) ls (.int v :: rest))) : W p l e R s m args below meth c H locs cells slots Q (F0 m pc ls (.int (nI i) :: .ref a :: rest)) :=
  va_iald hexec hb hK hP q0 t0 ha ht (vp_in_nI hi hn) hdg (by rw [nI_clamp (by omega), hv]; exact kk)
theorem cx_lald (hexec : p.tables.exec = Jvm.exec) (hb : c.code = cc) (hK : va_K D cl tys s) (hP : va_P D cl ws H) (q0 t0 : Nat) {cA : ClassId} {n : Nat} {f : Nat → Int64} (ha : ws[q0]? = some (a, .inl (cA, n, .inr (.inl f)))) (ht : tys[t0]? = some (cA, .long)) {i : Nat} (hn : n < 2 ^ 31) {v : Int64} (hv : f i = v) (hi : i < n) (hdg : decode cc pc = .ok (.laload, 1))
    (kk : W p l e R s m args below meth c H locs cells slots Q (F0 m (pc + 1) ls (.long v :: rest))) : W p l e R s m args below meth c H locs cells slots Q (F0 m pc ls (.int (nI i) :: .ref a :: rest)) :=
  va_lald hexec hb hK hP q0 t0 ha ht (vp_in_nI hi hn) hdg (by rw [nI_clamp (by omega), hv]; exact kk)
theorem cx_iast (hexec : p.tables.exec = Jvm.exec) (hb : c.code = cc) (hK : va_K D cl tys s) (hP : va_P D cl ws H) (hD : va_D A ws) (hS : va_S A H0 H locs) (q0 t0 : Nat) {cA : ClassId} {n : Nat} {f : Nat → Int32} (ha : ws[q0]? = some (a, .inl (cA, n, .inl f))) (ht : tys[t0]? = some (cA, .int)) {i : Nat} {x : Int32} (hn : n < 2 ^ 31) {f' : Nat → Int32} (hf : upd f i x = f') (hi : i < n) (hdg : decode cc pc = .ok (.iastore, 1))
    (kk : ∀ (H1 : Heap) (locs1 : List Loc), va_P D cl (ws.set q0 (a, .inl (cA, n, .inl f'))) H1 → va_D A (ws.set q0 (a, .inl (cA, n, .inl f'))) → va_S A H0 H1 locs1 → W p l e R s m args below meth c H1 locs1 cells slots Q (F0 m (pc + 1) ls rest)) : W p l e R s m args below meth c H locs cells slots Q (F0 m pc ls (.int x :: .int (nI i) :: .ref a :: rest)) :=
  va_iast hexec hb hK hP hD hS q0 t0 ha ht (vp_in_nI hi hn) hdg (by rw [nI_clamp (by omega), hf]; exact kk)
theorem cx_last (hexec : p.tables.exec = Jvm.exec) (hb : c.code = cc) (hK : va_K D cl tys s) (hP : va_P D cl ws H) (hD : va_D A ws) (hS : va_S A H0 H locs) (q0 t0 : Nat) {cA : ClassId} {n : Nat} {f : Nat → Int64} (ha : ws[q0]? = some (a, .inl (cA, n, .inr (.inl f)))) (ht : tys[t0]? = some (cA, .long)) {i : Nat} {x : Int64} (hn : n < 2 ^ 31) {f' : Nat → Int64} (hf : vp_updL f i x = f') (hi : i < n) (hdg : decode cc pc = .ok (.lastore, 1))
    (kk : ∀ (H1 : Heap) (locs1 : List Loc), va_P D cl (ws.set q0 (a, .inl (cA, n, .inr (.inl f')))) H1 → va_D A (ws.set q0 (a, .inl (cA, n, .inr (.inl f')))) → va_S A H0 H1 locs1 → W p l e R s m args below meth c H1 locs1 cells slots Q (F0 m (pc + 1) ls rest)) : W p l e R s m args below meth c H locs cells slots Q (F0 m pc ls (.long x :: .int (nI i) :: .ref a :: rest)) :=
  va_last hexec hb hK hP hD hS q0 t0 ha ht (vp_in_nI hi hn) hdg (by rw [nI_clamp (by omega), hf]; exact kk)
-- calls of methods that only read
def cx_R (D : va_G) (cl : List vw_C) (ws : va_W) (tys : List (ClassId × FieldType)) : State → Prop := fun U => va_P D cl ws U.heap ∧ va_K D cl tys U
theorem cx_si {post : Int32 → Prop} {av : Array Value} {st0 : List Value} (hr : va_Run p l e R s m args below meth c H locs cells slots 0 0 (F0 m pc ls st0) rest (vp_Si post av) (fun _ => False))
    (kk : ∀ r : Int32, post r → W p l e R s m args below meth c H locs cells slots Q (F0 m (pc + 3) ls (.int r :: rest))) : W p l e R s m args below meth c H locs cells slots Q (F0 m pc ls st0) := by
  intro T hT X
  obtain ⟨v, st₀, t, T', L, h0, X', hL, e1, -, ⟨r, hv, hp, hh⟩, st⟩ := hr T hT X
  cases hv
  obtain ⟨t2, a1, b1⟩ := kk r hp T' (by rw [e1, hh, h0]) (Stand.forget X' (fun q h => (hL q h).elim))
  exact ⟨t2, st t2 a1, b1⟩
theorem cx_sl {post : Int64 → Prop} {av : Array Value} {st0 : List Value} (hr : va_Run p l e R s m args below meth c H locs cells slots 0 0 (F0 m pc ls st0) rest (vp_Sl post av) (fun _ => False))
    (kk : ∀ r : Int64, post r → W p l e R s m args below meth c H locs cells slots Q (F0 m (pc + 3) ls (.long r :: rest))) : W p l e R s m args below meth c H locs cells slots Q (F0 m pc ls st0) := by
  intro T hT X
  obtain ⟨v, st₀, t, T', L, h0, X', hL, e1, -, ⟨r, hv, hp, hh⟩, st⟩ := hr T hT X
  cases hv
  obtain ⟨t2, a1, b1⟩ := kk r hp T' (by rw [e1, hh, h0]) (Stand.forget X' (fun q h => (hL q h).elim))
  exact ⟨t2, st t2 a1, b1⟩
theorem cx_R_blind {av : List Value} : FrameBlind (va_Pc av (cx_R D cl ws tys)) := fun a U g mk q => ⟨q.1, q.2.1, va_K.moved (u := U) (U := U.calling g mk a) (Vm.Alike.refl U.vm) q.2.2⟩
theorem cx_R_pre {av : List Value} (hP : va_P D cl ws H) (hK : va_K D cl tys s) : ∀ U : State, U.heap = H → s.WarmedH U.vm → va_Pc av (cx_R D cl ws tys) av.toArray U := fun U hU hW => ⟨rfl, by rw [hU]; exact hP, va_K.moved hW.alike hK⟩
theorem cx_preV {b : Nat} {As : List Value} {ci q0 : Nat} {q : vw_C} {fs : List Value} (hP : va_P D cl ws H) (hK : va_K D cl tys s) (hc : cl[ci]? = some q) (he : ws[q0]? = some (b, .inr (ci, fs))) : PreV s H q.1 b (va_Pc (.ref b :: As) (cx_R D cl ws tys)) As :=
  ⟨cx_R_blind, va_recv hK hP hc he, cx_R_pre hP hK⟩
theorem cx_preS {As : List Value} (hP : va_P D cl ws H) (hK : va_K D cl tys s) : PreS s H (va_Pc As (cx_R D cl ws tys)) As := ⟨cx_R_blind, cx_R_pre hP hK⟩
-- calls of methods that change cells of their world, and make none
def cx_M (D : va_G) (cl : List vw_C) (ws : va_W) (tys : List (ClassId × FieldType)) (sz : Nat) : State → Prop := fun U => U.heap.size = sz ∧ va_P D cl ws U.heap ∧ va_K D cl tys U ∧ va_D (fun _ => True) ws
def cx_B {S : Type} (D : va_G) (cl : List vw_C) (A1 : Nat → Prop) (w1 : S → va_W) : S → State → Prop := fun u t => va_P D cl (w1 u) t.heap ∧ va_D A1 (w1 u)
theorem cx_M_blind {av : List Value} {sz : Nat} : FrameBlind (va_Pc av (cx_M D cl ws tys sz)) := fun a U g mk q => ⟨q.1, q.2.1, q.2.2.1, va_K.moved (u := U) (U := U.calling g mk a) (Vm.Alike.refl U.vm) q.2.2.2.1, q.2.2.2.2⟩
theorem cx_M_pre {av : List Value} (hP : va_P D cl ws H) (hK : va_K D cl tys s) (hD : va_D A ws) : ∀ U : State, U.heap = H → s.WarmedH U.vm → va_Pc av (cx_M D cl ws tys H.size) av.toArray U := fun U hU hW => ⟨rfl, by rw [hU], by rw [hU]; exact hP, va_K.moved hW.alike hK, hD.weaken (fun _ _ _ _ => trivial)⟩
theorem cx_mreV {b : Nat} {As : List Value} {ci q0 : Nat} {q : vw_C} {fs : List Value} (hP : va_P D cl ws H) (hK : va_K D cl tys s) (hD : va_D A ws) (hc : cl[ci]? = some q) (he : ws[q0]? = some (b, .inr (ci, fs))) : PreV s H q.1 b (va_Pc (.ref b :: As) (cx_M D cl ws tys H.size)) As :=
  ⟨cx_M_blind, va_recv hK hP hc he, cx_M_pre hP hK hD⟩
theorem cx_mreS {As : List Value} (hP : va_P D cl ws H) (hK : va_K D cl tys s) (hD : va_D A ws) : PreS s H (va_Pc As (cx_M D cl ws tys H.size)) As := ⟨cx_M_blind, cx_M_pre hP hK hD⟩
theorem cx_mi {S : Type} {post : Int32 → S → Prop} {w1 : S → va_W} {wc wr : va_W} {av : Array Value} {st0 : List Value} (hP : va_P D cl ws H) (hD : va_D A ws) (hS : va_S A H0 H locs) (hA : ∀ q, H0.size ≤ q → A q) (isC isR : List Nat) (hC : isC.map (fun i => ws[i]?) = wc.map some) (hR : isR.map (fun i => ws[i]?) = wr.map some) (hn : va_nd isR = true) (hdis : ∀ i ∈ isR, i ∉ isC)
    (hr : va_Run p l e R s m args below meth c H locs cells slots 0 0 (F0 m pc ls st0) rest (va_Qi post (cx_B D cl (va_A wc H.size) w1) (va_A wc H.size) av) (va_A wc H.size))
    (kk : ∀ (r : Int32) (u : S) (H1 : Heap) (locs1 : List Loc), post r u → va_P D cl (wr ++ w1 u) H1 → va_D A (wr ++ w1 u) → va_S A H0 H1 locs1 → W p l e R s m args below meth c H1 locs1 cells slots Q (F0 m (pc + 3) ls (.int r :: rest))) : W p l e R s m args below meth c H locs cells slots Q (F0 m pc ls st0) := by
  have hF := va_free (wc := wc) hD hS hA isC hC
  refine va_calli hr hS (fun q _ h => hF q h) hF (fun r u t H1 locs1 ht hvm hp hB hz hk hS1 => ?_)
  obtain ⟨hP1, hD1⟩ := hB
  rw [ht] at hP1
  obtain ⟨hP2, hD2⟩ := va_join hP hD isC isR hC hR hn hdis hk hF hP1 hD1
  exact kk r u H1 locs1 hp hP2 hD2 hS1
theorem cx_ml {S : Type} {post : Int64 → S → Prop} {w1 : S → va_W} {wc wr : va_W} {av : Array Value} {st0 : List Value} (hP : va_P D cl ws H) (hD : va_D A ws) (hS : va_S A H0 H locs) (hA : ∀ q, H0.size ≤ q → A q) (isC isR : List Nat) (hC : isC.map (fun i => ws[i]?) = wc.map some) (hR : isR.map (fun i => ws[i]?) = wr.map some) (hn : va_nd isR = true) (hdis : ∀ i ∈ isR, i ∉ isC)
    (hr : va_Run p l e R s m args below meth c H locs cells slots 0 0 (F0 m pc ls st0) rest (va_Ql post (cx_B D cl (va_A wc H.size) w1) (va_A wc H.size) av) (va_A wc H.size))
    (kk : ∀ (r : Int64) (u : S) (H1 : Heap) (locs1 : List Loc), post r u → va_P D cl (wr ++ w1 u) H1 → va_D A (wr ++ w1 u) → va_S A H0 H1 locs1 → W p l e R s m args below meth c H1 locs1 cells slots Q (F0 m (pc + 3) ls (.long r :: rest))) : W p l e R s m args below meth c H locs cells slots Q (F0 m pc ls st0) := by
  have hF := va_free (wc := wc) hD hS hA isC hC
  refine va_calll hr hS (fun q _ h => hF q h) hF (fun r u t H1 locs1 ht hvm hp hB hz hk hS1 => ?_)
  obtain ⟨hP1, hD1⟩ := hB
  rw [ht] at hP1
  obtain ⟨hP2, hD2⟩ := va_join hP hD isC isR hC hR hn hdis hk hF hP1 hD1
  exact kk r u H1 locs1 hp hP2 hD2 hS1
theorem cx_mv {S : Type} {post : S → Prop} {w1 : S → va_W} {wc wr : va_W} {av : Array Value} {st0 : List Value} (hP : va_P D cl ws H) (hD : va_D A ws) (hS : va_S A H0 H locs) (hA : ∀ q, H0.size ≤ q → A q) (isC isR : List Nat) (hC : isC.map (fun i => ws[i]?) = wc.map some) (hR : isR.map (fun i => ws[i]?) = wr.map some) (hn : va_nd isR = true) (hdis : ∀ i ∈ isR, i ∉ isC)
    (hr : va_Run p l e R s m args below meth c H locs cells slots 0 0 (F0 m pc ls st0) rest (va_Qv post (cx_B D cl (va_A wc H.size) w1) (va_A wc H.size) av) (va_A wc H.size))
    (kk : ∀ (u : S) (H1 : Heap) (locs1 : List Loc), post u → va_P D cl (wr ++ w1 u) H1 → va_D A (wr ++ w1 u) → va_S A H0 H1 locs1 → W p l e R s m args below meth c H1 locs1 cells slots Q (F0 m (pc + 3) ls rest)) : W p l e R s m args below meth c H locs cells slots Q (F0 m pc ls st0) := by
  have hF := va_free (wc := wc) hD hS hA isC hC
  refine va_callv hr hS (fun q _ h => hF q h) hF (fun u t H1 locs1 ht hvm hp hB hz hk hS1 => ?_)
  obtain ⟨hP1, hD1⟩ := hB
  rw [ht] at hP1
  obtain ⟨hP2, hD2⟩ := va_join hP hD isC isR hC hR hn hdis hk hF hP1 hD1
  exact kk u H1 locs1 hp hP2 hD2 hS1
theorem cx_cv {S : Type} {post : S → Prop} {w1 : S → va_W} {wc wr : va_W} {av : Array Value} {st0 : List Value} {mc ms : Nat} (hP : va_P D cl ws H) (hD : va_D A ws) (hS : va_S A H0 H locs) (hA : ∀ q, H0.size ≤ q → A q) (isC isR : List Nat) (hC : isC.map (fun i => ws[i]?) = wc.map some) (hR : isR.map (fun i => ws[i]?) = wr.map some) (hn : va_nd isR = true) (hdis : ∀ i ∈ isR, i ∉ isC)
    (hr : va_Run p l e R s m args below meth c H locs cells slots mc ms (F0 m pc ls st0) rest (va_Qv post (cx_B D cl (va_A wc H.size) w1) (va_A wc H.size) av) (va_A wc H.size))
    (kk : ∀ (u : S) (H1 : Heap) (locs1 : List Loc), va_P D cl (wr ++ w1 u) H1 → va_D A (wr ++ w1 u) → va_S A H0 H1 locs1 → W p l e R s m args below meth c H1 locs1 (cells + mc) (slots + ms) Q (F0 m (pc + 3) ls rest)) : W p l e R s m args below meth c H locs cells slots Q (F0 m pc ls st0) := by
  have hF := va_free (wc := wc) hD hS hA isC hC
  refine va_callv hr hS (fun q _ h => hF q h) hF (fun u t H1 locs1 ht hvm hp hB hz hk hS1 => ?_)
  obtain ⟨hP1, hD1⟩ := hB
  rw [ht] at hP1
  obtain ⟨hP2, hD2⟩ := va_join hP hD isC isR hC hR hn hdis hk hF hP1 hD1
  exact kk u H1 locs1 hP2 hD2 hS1
-- Math.min, Math.max over Nat
theorem cx_min (hexec : p.tables.exec = Jvm.exec) (hb : c.code = cc) (hml : c.maxLocals = ls.size) {own : String} {index : Nat} (hown : s.vm.findClass own = some m.cls) (hlink : (Cond.methodLink own index Lib.Math.min.name).before args s = true) (hstat : (Cond.static Lib.Math.min.name).before args s = true) (hini : (Cond.initialized "java/lang/Math").before args s = true) (hcode : (Cond.code Lib.Math.min.name Lib.Math.min.code 2 (some .int)).before args s = true)
    (hframes : 1 ≤ R.frames) (hlocals : (rest.map fun v => v.category).sum + 13 ≤ R.locals) (hc : cells ≤ R.cells) (hs : slots ≤ R.slots) {x y : Nat} (hx : x < 2 ^ 31) (hy : y < 2 ^ 31) (hdg : decode cc pc = .ok (.invokestatic index, 3))
    (kk : W p l e R s m args below meth c H locs cells slots Q (F0 m (pc + 3) ls (.int (nI (min x y)) :: rest))) : W p l e R s m args below meth c H locs cells slots Q (F0 m pc ls (.int (nI y) :: .int (nI x) :: rest)) := by
  refine va_mmin hexec hb hml hown hlink hstat hini hcode hframes hlocals hc hs hdg ?_
  have h : (if nI y < nI x then nI y else nI x) = nI (min x y) := by
    by_cases q : y < x
    · rw [if_pos ((nI_ltI hy hx).mpr q), Nat.min_eq_right (Nat.le_of_lt q)]
    · rw [if_neg (fun z => q ((nI_ltI hy hx).mp z)), Nat.min_eq_left (Nat.le_of_not_lt q)]
  rw [h]
  exact kk
theorem cx_max (hexec : p.tables.exec = Jvm.exec) (hb : c.code = cc) (hml : c.maxLocals = ls.size) {own : String} {index : Nat} (hown : s.vm.findClass own = some m.cls) (hlink : (Cond.methodLink own index Lib.Math.max.name).before args s = true) (hstat : (Cond.static Lib.Math.max.name).before args s = true) (hini : (Cond.initialized "java/lang/Math").before args s = true) (hcode : (Cond.code Lib.Math.max.name Lib.Math.max.code 2 (some .int)).before args s = true)
    (hframes : 1 ≤ R.frames) (hlocals : (rest.map fun v => v.category).sum + 13 ≤ R.locals) (hc : cells ≤ R.cells) (hs : slots ≤ R.slots) {x y : Nat} (hx : x < 2 ^ 31) (hy : y < 2 ^ 31) (hdg : decode cc pc = .ok (.invokestatic index, 3))
    (kk : W p l e R s m args below meth c H locs cells slots Q (F0 m (pc + 3) ls (.int (nI (max x y)) :: rest))) : W p l e R s m args below meth c H locs cells slots Q (F0 m pc ls (.int (nI y) :: .int (nI x) :: rest)) := by
  refine va_mmax hexec hb hml hown hlink hstat hini hcode hframes hlocals hc hs hdg ?_
  have h : (if nI x < nI y then nI y else nI x) = nI (max x y) := by
    by_cases q : x < y
    · rw [if_pos ((nI_ltI hx hy).mpr q), Nat.max_eq_right (Nat.le_of_lt q)]
    · rw [if_neg (fun z => q ((nI_ltI hx hy).mp z)), Nat.max_eq_left (Nat.le_of_not_lt q)]
  rw [h]
  exact kk
end CX
theorem cx_bt {P : Prop} {_ : Decidable P} (h : P) : nI 1 = bI (decide P) := by rw [decide_eq_true h]; rfl
theorem cx_bf {P : Prop} {_ : Decidable P} (h : ¬ P) : nI 0 = bI (decide P) := by rw [decide_eq_false h]; rfl
theorem cx_suc {x : Nat} (h : ¬ x = 0) : ∃ y, x = y + 1 := ⟨x - 1, by omega⟩
theorem aI_p {x : Nat} (h : ¬ x = 0) : aI x = nI (x - 1) := by
  cases x with
  | zero => exact absurd rfl h
  | succ k => rfl
theorem cx_cg {cA : ClassId} {n : Nat} {f g : Nat → Int64} (h : ∀ j, j < n → f j = g j) : vp_cell cA (n, .inr (.inl f)) = vp_cell cA (n, .inr (.inl g)) := by
  have e : (fun j : Fin n => Value.long (f j.val)) = fun j : Fin n => Value.long (g j.val) := funext fun j => by rw [h j.val j.isLt]
  exact congrArg (fun z => ({ cls := cA, slots := Array.ofFn (n := n) z, vm := .none } : Cell)) e
theorem cx_Pcg {D : va_G} {cl : List vw_C} {ws : va_W} {H : Heap} {a : Nat} {cA : ClassId} {n : Nat} {f g : Nat → Int64} (hP : va_P D cl ws H) (q0 : Nat) (ha : ws[q0]? = some (a, .inl (cA, n, .inr (.inl f)))) (h : ∀ j, j < n → f j = g j) : va_P D cl (ws.set q0 (a, .inl (cA, n, .inr (.inl g)))) H := by
  intro k q hk
  by_cases e : q0 = k
  · subst e
    have hlt : q0 < ws.length := (List.getElem?_eq_some_iff.mp ha).1
    rw [List.getElem?_set_self hlt] at hk
    cases hk
    have b := hP q0 _ ha
    show H[a]? = some (vp_cell cA (n, .inr (.inl g)))
    rw [← cx_cg h]
    exact b
  · rw [List.getElem?_set_ne e] at hk
    exact hP k q hk
/-- one class of int arrays, one of long arrays -/
theorem cx_cAI {D : va_G} {cl : List vw_C} {kI kL c9 : ClassId} {s : State} (h : va_K D cl ([(kI, .int), (kL, .long)] ++ [(c9, .int)]) s) : kI = c9 := by
  have a := (h.2 0 (kI, .int) rfl).2
  have b := (h.2 2 (c9, .int) rfl).2
  exact Option.some.inj (a.symm.trans b)
theorem cx_cAL {D : va_G} {cl : List vw_C} {kI kL c9 : ClassId} {s : State} (h : va_K D cl ([(kI, .int), (kL, .long)] ++ [(c9, .long)]) s) : kL = c9 := by
  have a := (h.2 1 (kL, .long) rfl).2
  have b := (h.2 2 (c9, .long) rfl).2
  exact Option.some.inj (a.symm.trans b)
theorem cx_zR {cA : ClassId} {n : Nat} : vp_cell cA (n, .inl (fun _ => 0)) = arrV cA n (fun _ => defaultValue .int) := rfl
theorem cx_zI {cA : ClassId} {n : Nat} : vp_cell cA (n, .inl (cI (fun _ => 0))) = arrV cA n (fun _ => defaultValue .int) := rfl
theorem cx_zA {cB : ClassId} {n : Nat} : vp_cell cB (n, .inl (cA (fun _ => 1))) = arrV cB n (fun _ => defaultValue .int) := rfl
theorem cx_zL {cA : ClassId} {n : Nat} : vp_cell cA (n, .inr (.inl (cL (fun _ => 0)))) = arrV cA n (fun _ => defaultValue .long) := rfl
end
section
theorem cx_cmp3 {x y : Nat} (hx : x < 2 ^ 63) (hy : y < 2 ^ 63) : (y < x ∧ lg_cmp (lN x) (lN y) = 1) ∨ (x = y ∧ lg_cmp (lN x) (lN y) = 0) ∨ (x < y ∧ lg_cmp (lN x) (lN y) = -1) := by
  rcases Nat.lt_trichotomy y x with h | h | h
  · exact Or.inl ⟨h, by simp [lg_cmp, (pk_lLT hy hx).mpr h]⟩
  · exact Or.inr (Or.inl ⟨h.symm, by subst h; simp [lg_cmp]⟩)
  · have a : ¬ lN y < lN x := fun q => absurd ((pk_lLT hy hx).mp q) (by omega)
    have b : ¬ lN x = lN y := fun q => absurd ((pk_lEQ hx hy).mp q) (by omega)
    exact Or.inr (Or.inr ⟨h, by simp [lg_cmp, a, b]⟩)
theorem cx_cmp_lt_t {x y : Nat} (hx : x < 2 ^ 63) (hy : y < 2 ^ 63) (h : lg_cmp (lN x) (lN y) < 0) : x < y := by
  rcases cx_cmp3 hx hy with ⟨a, b⟩ | ⟨a, b⟩ | ⟨a, b⟩ <;> rw [b] at h <;> first | omega | exact absurd h (by decide)
theorem cx_cmp_lt_f {x y : Nat} (hx : x < 2 ^ 63) (hy : y < 2 ^ 63) (h : ¬ lg_cmp (lN x) (lN y) < 0) : y ≤ x := by
  rcases cx_cmp3 hx hy with ⟨a, b⟩ | ⟨a, b⟩ | ⟨a, b⟩ <;> rw [b] at h <;> first | omega | exact absurd h (by decide)
theorem cx_cmp_ge_t {x y : Nat} (hx : x < 2 ^ 63) (hy : y < 2 ^ 63) (h : 0 ≤ lg_cmp (lN x) (lN y)) : y ≤ x := by
  rcases cx_cmp3 hx hy with ⟨a, b⟩ | ⟨a, b⟩ | ⟨a, b⟩ <;> rw [b] at h <;> first | omega | exact absurd h (by decide)
theorem cx_cmp_ge_f {x y : Nat} (hx : x < 2 ^ 63) (hy : y < 2 ^ 63) (h : ¬ 0 ≤ lg_cmp (lN x) (lN y)) : x < y := by
  rcases cx_cmp3 hx hy with ⟨a, b⟩ | ⟨a, b⟩ | ⟨a, b⟩ <;> rw [b] at h <;> first | omega | exact absurd h (by decide)
theorem cx_cmp_le_t {x y : Nat} (hx : x < 2 ^ 63) (hy : y < 2 ^ 63) (h : lg_cmp (lN x) (lN y) ≤ 0) : x ≤ y := by
  rcases cx_cmp3 hx hy with ⟨a, b⟩ | ⟨a, b⟩ | ⟨a, b⟩ <;> rw [b] at h <;> first | omega | exact absurd h (by decide)
theorem cx_cmp_le_f {x y : Nat} (hx : x < 2 ^ 63) (hy : y < 2 ^ 63) (h : ¬ lg_cmp (lN x) (lN y) ≤ 0) : y < x := by
  rcases cx_cmp3 hx hy with ⟨a, b⟩ | ⟨a, b⟩ | ⟨a, b⟩ <;> rw [b] at h <;> first | omega | exact absurd h (by decide)
theorem cx_cmp_gt_t {x y : Nat} (hx : x < 2 ^ 63) (hy : y < 2 ^ 63) (h : 0 < lg_cmp (lN x) (lN y)) : y < x := by
  rcases cx_cmp3 hx hy with ⟨a, b⟩ | ⟨a, b⟩ | ⟨a, b⟩ <;> rw [b] at h <;> first | omega | exact absurd h (by decide)
theorem cx_cmp_gt_f {x y : Nat} (hx : x < 2 ^ 63) (hy : y < 2 ^ 63) (h : ¬ 0 < lg_cmp (lN x) (lN y)) : x ≤ y := by
  rcases cx_cmp3 hx hy with ⟨a, b⟩ | ⟨a, b⟩ | ⟨a, b⟩ <;> rw [b] at h <;> first | omega | exact absurd h (by decide)
theorem cx_cmp_eq_t {x y : Nat} (hx : x < 2 ^ 63) (hy : y < 2 ^ 63) (h : lg_cmp (lN x) (lN y) = 0) : x = y := by
  rcases cx_cmp3 hx hy with ⟨a, b⟩ | ⟨a, b⟩ | ⟨a, b⟩ <;> rw [b] at h <;> first | omega | exact absurd h (by decide)
theorem cx_cmp_eq_f {x y : Nat} (hx : x < 2 ^ 63) (hy : y < 2 ^ 63) (h : ¬ lg_cmp (lN x) (lN y) = 0) : ¬ x = y := by
  rcases cx_cmp3 hx hy with ⟨a, b⟩ | ⟨a, b⟩ | ⟨a, b⟩ <;> rw [b] at h <;> first | omega | exact absurd h (by decide)
theorem cx_cmp_ne_t {x y : Nat} (hx : x < 2 ^ 63) (hy : y < 2 ^ 63) (h : ¬ lg_cmp (lN x) (lN y) = 0) : ¬ x = y := by
  rcases cx_cmp3 hx hy with ⟨a, b⟩ | ⟨a, b⟩ | ⟨a, b⟩ <;> rw [b] at h <;> first | omega | exact absurd h (by decide)
theorem cx_cmp_ne_f {x y : Nat} (hx : x < 2 ^ 63) (hy : y < 2 ^ 63) (h : lg_cmp (lN x) (lN y) = 0) : x = y := by
  rcases cx_cmp3 hx hy with ⟨a, b⟩ | ⟨a, b⟩ | ⟨a, b⟩ <;> rw [b] at h <;> first | omega | exact absurd h (by decide)
section CX2
variable {p : Program} {l : Launch} {e : Env} {R : Room} {s : State} {m : MethodId} {args : Array Value} {below : List Frame} {meth : Method} {c : Code} {H : Heap} {locs : List Loc} {cells slots : Nat} {Q : State → Prop}
variable {cc : ByteArray} {pc : Nat} {ls : Array Slot} {rest : List Value}
theorem cx_loop1 {A1 : Type} {st : List Value} (I : A1 → Heap → List Loc → Array Slot → Prop) (μ : A1 → Nat) (hs : ∀ (a1 : A1) (H : Heap) (locs : List Loc) (ls : Array Slot), I a1 H locs ls → (∀ (b1 : A1) (H' : Heap) (locs' : List Loc) (ls' : Array Slot), I b1 H' locs' ls' → μ b1 < μ a1 → W p l e R s m args below meth c H' locs' cells slots Q (F0 m pc ls' st)) → W p l e R s m args below meth c H locs cells slots Q (F0 m pc ls st)) (a1 : A1) (h : I a1 H locs ls) : W p l e R s m args below meth c H locs cells slots Q (F0 m pc ls st) :=
  cx_loop (σ := A1) (fun z H locs ls => I z H locs ls) (fun z => μ z) (fun z H locs ls h ih => hs z H locs ls h (fun b1 H' locs' ls' h2 h3 => ih b1 H' locs' ls' h2 h3)) a1 h
theorem cx_loopR1 {A1 : Type} {st : List Value} (I : A1 → Array Slot → Prop) (μ : A1 → Nat) (hs : ∀ (a1 : A1) (ls : Array Slot), I a1 ls → (∀ (b1 : A1) (ls' : Array Slot), I b1 ls' → μ b1 < μ a1 → W p l e R s m args below meth c H locs cells slots Q (F0 m pc ls' st)) → W p l e R s m args below meth c H locs cells slots Q (F0 m pc ls st)) (a1 : A1) (h : I a1 ls) : W p l e R s m args below meth c H locs cells slots Q (F0 m pc ls st) :=
  cx_loopR (σ := A1) (fun z ls => I z ls) (fun z => μ z) (fun z ls h ih => hs z ls h (fun b1 ls' h2 h3 => ih b1 ls' h2 h3)) a1 h
theorem cx_loop2 {A1 A2 : Type} {st : List Value} (I : A1 → A2 → Heap → List Loc → Array Slot → Prop) (μ : A1 → A2 → Nat) (hs : ∀ (a1 : A1) (a2 : A2) (H : Heap) (locs : List Loc) (ls : Array Slot), I a1 a2 H locs ls → (∀ (b1 : A1) (b2 : A2) (H' : Heap) (locs' : List Loc) (ls' : Array Slot), I b1 b2 H' locs' ls' → μ b1 b2 < μ a1 a2 → W p l e R s m args below meth c H' locs' cells slots Q (F0 m pc ls' st)) → W p l e R s m args below meth c H locs cells slots Q (F0 m pc ls st)) (a1 : A1) (a2 : A2) (h : I a1 a2 H locs ls) : W p l e R s m args below meth c H locs cells slots Q (F0 m pc ls st) :=
  cx_loop (σ := A1 × A2) (fun z H locs ls => I z.1 z.2 H locs ls) (fun z => μ z.1 z.2) (fun z H locs ls h ih => hs z.1 z.2 H locs ls h (fun b1 b2 H' locs' ls' h2 h3 => ih (b1, b2) H' locs' ls' h2 h3)) (a1, a2) h
theorem cx_loopR2 {A1 A2 : Type} {st : List Value} (I : A1 → A2 → Array Slot → Prop) (μ : A1 → A2 → Nat) (hs : ∀ (a1 : A1) (a2 : A2) (ls : Array Slot), I a1 a2 ls → (∀ (b1 : A1) (b2 : A2) (ls' : Array Slot), I b1 b2 ls' → μ b1 b2 < μ a1 a2 → W p l e R s m args below meth c H locs cells slots Q (F0 m pc ls' st)) → W p l e R s m args below meth c H locs cells slots Q (F0 m pc ls st)) (a1 : A1) (a2 : A2) (h : I a1 a2 ls) : W p l e R s m args below meth c H locs cells slots Q (F0 m pc ls st) :=
  cx_loopR (σ := A1 × A2) (fun z ls => I z.1 z.2 ls) (fun z => μ z.1 z.2) (fun z ls h ih => hs z.1 z.2 ls h (fun b1 b2 ls' h2 h3 => ih (b1, b2) ls' h2 h3)) (a1, a2) h
theorem cx_loop3 {A1 A2 A3 : Type} {st : List Value} (I : A1 → A2 → A3 → Heap → List Loc → Array Slot → Prop) (μ : A1 → A2 → A3 → Nat) (hs : ∀ (a1 : A1) (a2 : A2) (a3 : A3) (H : Heap) (locs : List Loc) (ls : Array Slot), I a1 a2 a3 H locs ls → (∀ (b1 : A1) (b2 : A2) (b3 : A3) (H' : Heap) (locs' : List Loc) (ls' : Array Slot), I b1 b2 b3 H' locs' ls' → μ b1 b2 b3 < μ a1 a2 a3 → W p l e R s m args below meth c H' locs' cells slots Q (F0 m pc ls' st)) → W p l e R s m args below meth c H locs cells slots Q (F0 m pc ls st)) (a1 : A1) (a2 : A2) (a3 : A3) (h : I a1 a2 a3 H locs ls) : W p l e R s m args below meth c H locs cells slots Q (F0 m pc ls st) :=
  cx_loop (σ := A1 × A2 × A3) (fun z H locs ls => I z.1 z.2.1 z.2.2 H locs ls) (fun z => μ z.1 z.2.1 z.2.2) (fun z H locs ls h ih => hs z.1 z.2.1 z.2.2 H locs ls h (fun b1 b2 b3 H' locs' ls' h2 h3 => ih (b1, b2, b3) H' locs' ls' h2 h3)) (a1, a2, a3) h
theorem cx_loopR3 {A1 A2 A3 : Type} {st : List Value} (I : A1 → A2 → A3 → Array Slot → Prop) (μ : A1 → A2 → A3 → Nat) (hs : ∀ (a1 : A1) (a2 : A2) (a3 : A3) (ls : Array Slot), I a1 a2 a3 ls → (∀ (b1 : A1) (b2 : A2) (b3 : A3) (ls' : Array Slot), I b1 b2 b3 ls' → μ b1 b2 b3 < μ a1 a2 a3 → W p l e R s m args below meth c H locs cells slots Q (F0 m pc ls' st)) → W p l e R s m args below meth c H locs cells slots Q (F0 m pc ls st)) (a1 : A1) (a2 : A2) (a3 : A3) (h : I a1 a2 a3 ls) : W p l e R s m args below meth c H locs cells slots Q (F0 m pc ls st) :=
  cx_loopR (σ := A1 × A2 × A3) (fun z ls => I z.1 z.2.1 z.2.2 ls) (fun z => μ z.1 z.2.1 z.2.2) (fun z ls h ih => hs z.1 z.2.1 z.2.2 ls h (fun b1 b2 b3 ls' h2 h3 => ih (b1, b2, b3) ls' h2 h3)) (a1, a2, a3) h
theorem cx_loop4 {A1 A2 A3 A4 : Type} {st : List Value} (I : A1 → A2 → A3 → A4 → Heap → List Loc → Array Slot → Prop) (μ : A1 → A2 → A3 → A4 → Nat) (hs : ∀ (a1 : A1) (a2 : A2) (a3 : A3) (a4 : A4) (H : Heap) (locs : List Loc) (ls : Array Slot), I a1 a2 a3 a4 H locs ls → (∀ (b1 : A1) (b2 : A2) (b3 : A3) (b4 : A4) (H' : Heap) (locs' : List Loc) (ls' : Array Slot), I b1 b2 b3 b4 H' locs' ls' → μ b1 b2 b3 b4 < μ a1 a2 a3 a4 → W p l e R s m args below meth c H' locs' cells slots Q (F0 m pc ls' st)) → W p l e R s m args below meth c H locs cells slots Q (F0 m pc ls st)) (a1 : A1) (a2 : A2) (a3 : A3) (a4 : A4) (h : I a1 a2 a3 a4 H locs ls) : W p l e R s m args below meth c H locs cells slots Q (F0 m pc ls st) :=
  cx_loop (σ := A1 × A2 × A3 × A4) (fun z H locs ls => I z.1 z.2.1 z.2.2.1 z.2.2.2 H locs ls) (fun z => μ z.1 z.2.1 z.2.2.1 z.2.2.2) (fun z H locs ls h ih => hs z.1 z.2.1 z.2.2.1 z.2.2.2 H locs ls h (fun b1 b2 b3 b4 H' locs' ls' h2 h3 => ih (b1, b2, b3, b4) H' locs' ls' h2 h3)) (a1, a2, a3, a4) h
theorem cx_loopR4 {A1 A2 A3 A4 : Type} {st : List Value} (I : A1 → A2 → A3 → A4 → Array Slot → Prop) (μ : A1 → A2 → A3 → A4 → Nat) (hs : ∀ (a1 : A1) (a2 : A2) (a3 : A3) (a4 : A4) (ls : Array Slot), I a1 a2 a3 a4 ls → (∀ (b1 : A1) (b2 : A2) (b3 : A3) (b4 : A4) (ls' : Array Slot), I b1 b2 b3 b4 ls' → μ b1 b2 b3 b4 < μ a1 a2 a3 a4 → W p l e R s m args below meth c H locs cells slots Q (F0 m pc ls' st)) → W p l e R s m args below meth c H locs cells slots Q (F0 m pc ls st)) (a1 : A1) (a2 : A2) (a3 : A3) (a4 : A4) (h : I a1 a2 a3 a4 ls) : W p l e R s m args below meth c H locs cells slots Q (F0 m pc ls st) :=
  cx_loopR (σ := A1 × A2 × A3 × A4) (fun z ls => I z.1 z.2.1 z.2.2.1 z.2.2.2 ls) (fun z => μ z.1 z.2.1 z.2.2.1 z.2.2.2) (fun z ls h ih => hs z.1 z.2.1 z.2.2.1 z.2.2.2 ls h (fun b1 b2 b3 b4 ls' h2 h3 => ih (b1, b2, b3, b4) ls' h2 h3)) (a1, a2, a3, a4) h
theorem cx_loop5 {A1 A2 A3 A4 A5 : Type} {st : List Value} (I : A1 → A2 → A3 → A4 → A5 → Heap → List Loc → Array Slot → Prop) (μ : A1 → A2 → A3 → A4 → A5 → Nat) (hs : ∀ (a1 : A1) (a2 : A2) (a3 : A3) (a4 : A4) (a5 : A5) (H : Heap) (locs : List Loc) (ls : Array Slot), I a1 a2 a3 a4 a5 H locs ls → (∀ (b1 : A1) (b2 : A2) (b3 : A3) (b4 : A4) (b5 : A5) (H' : Heap) (locs' : List Loc) (ls' : Array Slot), I b1 b2 b3 b4 b5 H' locs' ls' → μ b1 b2 b3 b4 b5 < μ a1 a2 a3 a4 a5 → W p l e R s m args below meth c H' locs' cells slots Q (F0 m pc ls' st)) → W p l e R s m args below meth c H locs cells slots Q (F0 m pc ls st)) (a1 : A1) (a2 : A2) (a3 : A3) (a4 : A4) (a5 : A5) (h : I a1 a2 a3 a4 a5 H locs ls) : W p l e R s m args below meth c H locs cells slots Q (F0 m pc ls st) :=
  cx_loop (σ := A1 × A2 × A3 × A4 × A5) (fun z H locs ls => I z.1 z.2.1 z.2.2.1 z.2.2.2.1 z.2.2.2.2 H locs ls) (fun z => μ z.1 z.2.1 z.2.2.1 z.2.2.2.1 z.2.2.2.2) (fun z H locs ls h ih => hs z.1 z.2.1 z.2.2.1 z.2.2.2.1 z.2.2.2.2 H locs ls h (fun b1 b2 b3 b4 b5 H' locs' ls' h2 h3 => ih (b1, b2, b3, b4, b5) H' locs' ls' h2 h3)) (a1, a2, a3, a4, a5) h
theorem cx_loopR5 {A1 A2 A3 A4 A5 : Type} {st : List Value} (I : A1 → A2 → A3 → A4 → A5 → Array Slot → Prop) (μ : A1 → A2 → A3 → A4 → A5 → Nat) (hs : ∀ (a1 : A1) (a2 : A2) (a3 : A3) (a4 : A4) (a5 : A5) (ls : Array Slot), I a1 a2 a3 a4 a5 ls → (∀ (b1 : A1) (b2 : A2) (b3 : A3) (b4 : A4) (b5 : A5) (ls' : Array Slot), I b1 b2 b3 b4 b5 ls' → μ b1 b2 b3 b4 b5 < μ a1 a2 a3 a4 a5 → W p l e R s m args below meth c H locs cells slots Q (F0 m pc ls' st)) → W p l e R s m args below meth c H locs cells slots Q (F0 m pc ls st)) (a1 : A1) (a2 : A2) (a3 : A3) (a4 : A4) (a5 : A5) (h : I a1 a2 a3 a4 a5 ls) : W p l e R s m args below meth c H locs cells slots Q (F0 m pc ls st) :=
  cx_loopR (σ := A1 × A2 × A3 × A4 × A5) (fun z ls => I z.1 z.2.1 z.2.2.1 z.2.2.2.1 z.2.2.2.2 ls) (fun z => μ z.1 z.2.1 z.2.2.1 z.2.2.2.1 z.2.2.2.2) (fun z ls h ih => hs z.1 z.2.1 z.2.2.1 z.2.2.2.1 z.2.2.2.2 ls h (fun b1 b2 b3 b4 b5 ls' h2 h3 => ih (b1, b2, b3, b4, b5) ls' h2 h3)) (a1, a2, a3, a4, a5) h
theorem cx_loop6 {A1 A2 A3 A4 A5 A6 : Type} {st : List Value} (I : A1 → A2 → A3 → A4 → A5 → A6 → Heap → List Loc → Array Slot → Prop) (μ : A1 → A2 → A3 → A4 → A5 → A6 → Nat) (hs : ∀ (a1 : A1) (a2 : A2) (a3 : A3) (a4 : A4) (a5 : A5) (a6 : A6) (H : Heap) (locs : List Loc) (ls : Array Slot), I a1 a2 a3 a4 a5 a6 H locs ls → (∀ (b1 : A1) (b2 : A2) (b3 : A3) (b4 : A4) (b5 : A5) (b6 : A6) (H' : Heap) (locs' : List Loc) (ls' : Array Slot), I b1 b2 b3 b4 b5 b6 H' locs' ls' → μ b1 b2 b3 b4 b5 b6 < μ a1 a2 a3 a4 a5 a6 → W p l e R s m args below meth c H' locs' cells slots Q (F0 m pc ls' st)) → W p l e R s m args below meth c H locs cells slots Q (F0 m pc ls st)) (a1 : A1) (a2 : A2) (a3 : A3) (a4 : A4) (a5 : A5) (a6 : A6) (h : I a1 a2 a3 a4 a5 a6 H locs ls) : W p l e R s m args below meth c H locs cells slots Q (F0 m pc ls st) :=
  cx_loop (σ := A1 × A2 × A3 × A4 × A5 × A6) (fun z H locs ls => I z.1 z.2.1 z.2.2.1 z.2.2.2.1 z.2.2.2.2.1 z.2.2.2.2.2 H locs ls) (fun z => μ z.1 z.2.1 z.2.2.1 z.2.2.2.1 z.2.2.2.2.1 z.2.2.2.2.2) (fun z H locs ls h ih => hs z.1 z.2.1 z.2.2.1 z.2.2.2.1 z.2.2.2.2.1 z.2.2.2.2.2 H locs ls h (fun b1 b2 b3 b4 b5 b6 H' locs' ls' h2 h3 => ih (b1, b2, b3, b4, b5, b6) H' locs' ls' h2 h3)) (a1, a2, a3, a4, a5, a6) h
theorem cx_loopR6 {A1 A2 A3 A4 A5 A6 : Type} {st : List Value} (I : A1 → A2 → A3 → A4 → A5 → A6 → Array Slot → Prop) (μ : A1 → A2 → A3 → A4 → A5 → A6 → Nat) (hs : ∀ (a1 : A1) (a2 : A2) (a3 : A3) (a4 : A4) (a5 : A5) (a6 : A6) (ls : Array Slot), I a1 a2 a3 a4 a5 a6 ls → (∀ (b1 : A1) (b2 : A2) (b3 : A3) (b4 : A4) (b5 : A5) (b6 : A6) (ls' : Array Slot), I b1 b2 b3 b4 b5 b6 ls' → μ b1 b2 b3 b4 b5 b6 < μ a1 a2 a3 a4 a5 a6 → W p l e R s m args below meth c H locs cells slots Q (F0 m pc ls' st)) → W p l e R s m args below meth c H locs cells slots Q (F0 m pc ls st)) (a1 : A1) (a2 : A2) (a3 : A3) (a4 : A4) (a5 : A5) (a6 : A6) (h : I a1 a2 a3 a4 a5 a6 ls) : W p l e R s m args below meth c H locs cells slots Q (F0 m pc ls st) :=
  cx_loopR (σ := A1 × A2 × A3 × A4 × A5 × A6) (fun z ls => I z.1 z.2.1 z.2.2.1 z.2.2.2.1 z.2.2.2.2.1 z.2.2.2.2.2 ls) (fun z => μ z.1 z.2.1 z.2.2.1 z.2.2.2.1 z.2.2.2.2.1 z.2.2.2.2.2) (fun z ls h ih => hs z.1 z.2.1 z.2.2.1 z.2.2.2.1 z.2.2.2.2.1 z.2.2.2.2.2 ls h (fun b1 b2 b3 b4 b5 b6 ls' h2 h3 => ih (b1, b2, b3, b4, b5, b6) ls' h2 h3)) (a1, a2, a3, a4, a5, a6) h
theorem cx_loop7 {A1 A2 A3 A4 A5 A6 A7 : Type} {st : List Value} (I : A1 → A2 → A3 → A4 → A5 → A6 → A7 → Heap → List Loc → Array Slot → Prop) (μ : A1 → A2 → A3 → A4 → A5 → A6 → A7 → Nat) (hs : ∀ (a1 : A1) (a2 : A2) (a3 : A3) (a4 : A4) (a5 : A5) (a6 : A6) (a7 : A7) (H : Heap) (locs : List Loc) (ls : Array Slot), I a1 a2 a3 a4 a5 a6 a7 H locs ls → (∀ (b1 : A1) (b2 : A2) (b3 : A3) (b4 : A4) (b5 : A5) (b6 : A6) (b7 : A7) (H' : Heap) (locs' : List Loc) (ls' : Array Slot), I b1 b2 b3 b4 b5 b6 b7 H' locs' ls' → μ b1 b2 b3 b4 b5 b6 b7 < μ a1 a2 a3 a4 a5 a6 a7 → W p l e R s m args below meth c H' locs' cells slots Q (F0 m pc ls' st)) → W p l e R s m args below meth c H locs cells slots Q (F0 m pc ls st)) (a1 : A1) (a2 : A2) (a3 : A3) (a4 : A4) (a5 : A5) (a6 : A6) (a7 : A7) (h : I a1 a2 a3 a4 a5 a6 a7 H locs ls) : W p l e R s m args below meth c H locs cells slots Q (F0 m pc ls st) :=
  cx_loop (σ := A1 × A2 × A3 × A4 × A5 × A6 × A7) (fun z H locs ls => I z.1 z.2.1 z.2.2.1 z.2.2.2.1 z.2.2.2.2.1 z.2.2.2.2.2.1 z.2.2.2.2.2.2 H locs ls) (fun z => μ z.1 z.2.1 z.2.2.1 z.2.2.2.1 z.2.2.2.2.1 z.2.2.2.2.2.1 z.2.2.2.2.2.2) (fun z H locs ls h ih => hs z.1 z.2.1 z.2.2.1 z.2.2.2.1 z.2.2.2.2.1 z.2.2.2.2.2.1 z.2.2.2.2.2.2 H locs ls h (fun b1 b2 b3 b4 b5 b6 b7 H' locs' ls' h2 h3 => ih (b1, b2, b3, b4, b5, b6, b7) H' locs' ls' h2 h3)) (a1, a2, a3, a4, a5, a6, a7) h
theorem cx_loopR7 {A1 A2 A3 A4 A5 A6 A7 : Type} {st : List Value} (I : A1 → A2 → A3 → A4 → A5 → A6 → A7 → Array Slot → Prop) (μ : A1 → A2 → A3 → A4 → A5 → A6 → A7 → Nat) (hs : ∀ (a1 : A1) (a2 : A2) (a3 : A3) (a4 : A4) (a5 : A5) (a6 : A6) (a7 : A7) (ls : Array Slot), I a1 a2 a3 a4 a5 a6 a7 ls → (∀ (b1 : A1) (b2 : A2) (b3 : A3) (b4 : A4) (b5 : A5) (b6 : A6) (b7 : A7) (ls' : Array Slot), I b1 b2 b3 b4 b5 b6 b7 ls' → μ b1 b2 b3 b4 b5 b6 b7 < μ a1 a2 a3 a4 a5 a6 a7 → W p l e R s m args below meth c H locs cells slots Q (F0 m pc ls' st)) → W p l e R s m args below meth c H locs cells slots Q (F0 m pc ls st)) (a1 : A1) (a2 : A2) (a3 : A3) (a4 : A4) (a5 : A5) (a6 : A6) (a7 : A7) (h : I a1 a2 a3 a4 a5 a6 a7 ls) : W p l e R s m args below meth c H locs cells slots Q (F0 m pc ls st) :=
  cx_loopR (σ := A1 × A2 × A3 × A4 × A5 × A6 × A7) (fun z ls => I z.1 z.2.1 z.2.2.1 z.2.2.2.1 z.2.2.2.2.1 z.2.2.2.2.2.1 z.2.2.2.2.2.2 ls) (fun z => μ z.1 z.2.1 z.2.2.1 z.2.2.2.1 z.2.2.2.2.1 z.2.2.2.2.2.1 z.2.2.2.2.2.2) (fun z ls h ih => hs z.1 z.2.1 z.2.2.1 z.2.2.2.1 z.2.2.2.2.1 z.2.2.2.2.2.1 z.2.2.2.2.2.2 ls h (fun b1 b2 b3 b4 b5 b6 b7 ls' h2 h3 => ih (b1, b2, b3, b4, b5, b6, b7) ls' h2 h3)) (a1, a2, a3, a4, a5, a6, a7) h
theorem cx_loop8 {A1 A2 A3 A4 A5 A6 A7 A8 : Type} {st : List Value} (I : A1 → A2 → A3 → A4 → A5 → A6 → A7 → A8 → Heap → List Loc → Array Slot → Prop) (μ : A1 → A2 → A3 → A4 → A5 → A6 → A7 → A8 → Nat) (hs : ∀ (a1 : A1) (a2 : A2) (a3 : A3) (a4 : A4) (a5 : A5) (a6 : A6) (a7 : A7) (a8 : A8) (H : Heap) (locs : List Loc) (ls : Array Slot), I a1 a2 a3 a4 a5 a6 a7 a8 H locs ls → (∀ (b1 : A1) (b2 : A2) (b3 : A3) (b4 : A4) (b5 : A5) (b6 : A6) (b7 : A7) (b8 : A8) (H' : Heap) (locs' : List Loc) (ls' : Array Slot), I b1 b2 b3 b4 b5 b6 b7 b8 H' locs' ls' → μ b1 b2 b3 b4 b5 b6 b7 b8 < μ a1 a2 a3 a4 a5 a6 a7 a8 → W p l e R s m args below meth c H' locs' cells slots Q (F0 m pc ls' st)) → W p l e R s m args below meth c H locs cells slots Q (F0 m pc ls st)) (a1 : A1) (a2 : A2) (a3 : A3) (a4 : A4) (a5 : A5) (a6 : A6) (a7 : A7) (a8 : A8) (h : I a1 a2 a3 a4 a5 a6 a7 a8 H locs ls) : W p l e R s m args below meth c H locs cells slots Q (F0 m pc ls st) :=
  cx_loop (σ := A1 × A2 × A3 × A4 × A5 × A6 × A7 × A8) (fun z H locs ls => I z.1 z.2.1 z.2.2.1 z.2.2.2.1 z.2.2.2.2.1 z.2.2.2.2.2.1 z.2.2.2.2.2.2.1 z.2.2.2.2.2.2.2 H locs ls) (fun z => μ z.1 z.2.1 z.2.2.1 z.2.2.2.1 z.2.2.2.2.1 z.2.2.2.2.2.1 z.2.2.2.2.2.2.1 z.2.2.2.2.2.2.2) (fun z H locs ls h ih => hs z.1 z.2.1 z.2.2.1 z.2.2.2.1 z.2.2.2.2.1 z.2.2.2.2.2.1 z.2.2.2.2.2.2.1 z.2.2.2.2.2.2.2 H locs ls h (fun b1 b2 b3 b4 b5 b6 b7 b8 H' locs' ls' h2 h3 => ih (b1, b2, b3, b4, b5, b6, b7, b8) H' locs' ls' h2 h3)) (a1, a2, a3, a4, a5, a6, a7, a8) h
theorem cx_loopR8 {A1 A2 A3 A4 A5 A6 A7 A8 : Type} {st : List Value} (I : A1 → A2 → A3 → A4 → A5 → A6 → A7 → A8 → Array Slot → Prop) (μ : A1 → A2 → A3 → A4 → A5 → A6 → A7 → A8 → Nat) (hs : ∀ (a1 : A1) (a2 : A2) (a3 : A3) (a4 : A4) (a5 : A5) (a6 : A6) (a7 : A7) (a8 : A8) (ls : Array Slot), I a1 a2 a3 a4 a5 a6 a7 a8 ls → (∀ (b1 : A1) (b2 : A2) (b3 : A3) (b4 : A4) (b5 : A5) (b6 : A6) (b7 : A7) (b8 : A8) (ls' : Array Slot), I b1 b2 b3 b4 b5 b6 b7 b8 ls' → μ b1 b2 b3 b4 b5 b6 b7 b8 < μ a1 a2 a3 a4 a5 a6 a7 a8 → W p l e R s m args below meth c H locs cells slots Q (F0 m pc ls' st)) → W p l e R s m args below meth c H locs cells slots Q (F0 m pc ls st)) (a1 : A1) (a2 : A2) (a3 : A3) (a4 : A4) (a5 : A5) (a6 : A6) (a7 : A7) (a8 : A8) (h : I a1 a2 a3 a4 a5 a6 a7 a8 ls) : W p l e R s m args below meth c H locs cells slots Q (F0 m pc ls st) :=
  cx_loopR (σ := A1 × A2 × A3 × A4 × A5 × A6 × A7 × A8) (fun z ls => I z.1 z.2.1 z.2.2.1 z.2.2.2.1 z.2.2.2.2.1 z.2.2.2.2.2.1 z.2.2.2.2.2.2.1 z.2.2.2.2.2.2.2 ls) (fun z => μ z.1 z.2.1 z.2.2.1 z.2.2.2.1 z.2.2.2.2.1 z.2.2.2.2.2.1 z.2.2.2.2.2.2.1 z.2.2.2.2.2.2.2) (fun z ls h ih => hs z.1 z.2.1 z.2.2.1 z.2.2.2.1 z.2.2.2.2.1 z.2.2.2.2.2.1 z.2.2.2.2.2.2.1 z.2.2.2.2.2.2.2 ls h (fun b1 b2 b3 b4 b5 b6 b7 b8 ls' h2 h3 => ih (b1, b2, b3, b4, b5, b6, b7, b8) ls' h2 h3)) (a1, a2, a3, a4, a5, a6, a7, a8) h
theorem cx_join0 {g : JFrame} (pc2 : Nat) (st2 : List Value) (I : Heap → List Loc → Array Slot → Prop) (k2 : (∀  (H : Heap) (locs : List Loc) (ls : Array Slot), I H locs ls → W p l e R s m args below meth c H locs cells slots Q (F0 m pc2 ls st2)) → W p l e R s m args below meth c H locs cells slots Q g) (k1 : ∀  (H : Heap) (locs : List Loc) (ls : Array Slot), I H locs ls → W p l e R s m args below meth c H locs cells slots Q (F0 m pc2 ls st2)) : W p l e R s m args below meth c H locs cells slots Q g := k2 k1
theorem cx_joinR0 {g : JFrame} (pc2 : Nat) (st2 : List Value) (I : Array Slot → Prop) (k2 : (∀  (ls : Array Slot), I ls → W p l e R s m args below meth c H locs cells slots Q (F0 m pc2 ls st2)) → W p l e R s m args below meth c H locs cells slots Q g) (k1 : ∀  (ls : Array Slot), I ls → W p l e R s m args below meth c H locs cells slots Q (F0 m pc2 ls st2)) : W p l e R s m args below meth c H locs cells slots Q g := k2 k1
theorem cx_join1 {A1 : Type} {g : JFrame} (pc2 : Nat) (st2 : A1 → List Value) (I : A1 → Heap → List Loc → Array Slot → Prop) (k2 : (∀ (a1 : A1) (H : Heap) (locs : List Loc) (ls : Array Slot), I a1 H locs ls → W p l e R s m args below meth c H locs cells slots Q (F0 m pc2 ls (st2 a1))) → W p l e R s m args below meth c H locs cells slots Q g) (k1 : ∀ (a1 : A1) (H : Heap) (locs : List Loc) (ls : Array Slot), I a1 H locs ls → W p l e R s m args below meth c H locs cells slots Q (F0 m pc2 ls (st2 a1))) : W p l e R s m args below meth c H locs cells slots Q g := k2 k1
theorem cx_joinR1 {A1 : Type} {g : JFrame} (pc2 : Nat) (st2 : A1 → List Value) (I : A1 → Array Slot → Prop) (k2 : (∀ (a1 : A1) (ls : Array Slot), I a1 ls → W p l e R s m args below meth c H locs cells slots Q (F0 m pc2 ls (st2 a1))) → W p l e R s m args below meth c H locs cells slots Q g) (k1 : ∀ (a1 : A1) (ls : Array Slot), I a1 ls → W p l e R s m args below meth c H locs cells slots Q (F0 m pc2 ls (st2 a1))) : W p l e R s m args below meth c H locs cells slots Q g := k2 k1
theorem cx_join2 {A1 A2 : Type} {g : JFrame} (pc2 : Nat) (st2 : A1 → A2 → List Value) (I : A1 → A2 → Heap → List Loc → Array Slot → Prop) (k2 : (∀ (a1 : A1) (a2 : A2) (H : Heap) (locs : List Loc) (ls : Array Slot), I a1 a2 H locs ls → W p l e R s m args below meth c H locs cells slots Q (F0 m pc2 ls (st2 a1 a2))) → W p l e R s m args below meth c H locs cells slots Q g) (k1 : ∀ (a1 : A1) (a2 : A2) (H : Heap) (locs : List Loc) (ls : Array Slot), I a1 a2 H locs ls → W p l e R s m args below meth c H locs cells slots Q (F0 m pc2 ls (st2 a1 a2))) : W p l e R s m args below meth c H locs cells slots Q g := k2 k1
theorem cx_joinR2 {A1 A2 : Type} {g : JFrame} (pc2 : Nat) (st2 : A1 → A2 → List Value) (I : A1 → A2 → Array Slot → Prop) (k2 : (∀ (a1 : A1) (a2 : A2) (ls : Array Slot), I a1 a2 ls → W p l e R s m args below meth c H locs cells slots Q (F0 m pc2 ls (st2 a1 a2))) → W p l e R s m args below meth c H locs cells slots Q g) (k1 : ∀ (a1 : A1) (a2 : A2) (ls : Array Slot), I a1 a2 ls → W p l e R s m args below meth c H locs cells slots Q (F0 m pc2 ls (st2 a1 a2))) : W p l e R s m args below meth c H locs cells slots Q g := k2 k1
theorem cx_join3 {A1 A2 A3 : Type} {g : JFrame} (pc2 : Nat) (st2 : A1 → A2 → A3 → List Value) (I : A1 → A2 → A3 → Heap → List Loc → Array Slot → Prop) (k2 : (∀ (a1 : A1) (a2 : A2) (a3 : A3) (H : Heap) (locs : List Loc) (ls : Array Slot), I a1 a2 a3 H locs ls → W p l e R s m args below meth c H locs cells slots Q (F0 m pc2 ls (st2 a1 a2 a3))) → W p l e R s m args below meth c H locs cells slots Q g) (k1 : ∀ (a1 : A1) (a2 : A2) (a3 : A3) (H : Heap) (locs : List Loc) (ls : Array Slot), I a1 a2 a3 H locs ls → W p l e R s m args below meth c H locs cells slots Q (F0 m pc2 ls (st2 a1 a2 a3))) : W p l e R s m args below meth c H locs cells slots Q g := k2 k1
theorem cx_joinR3 {A1 A2 A3 : Type} {g : JFrame} (pc2 : Nat) (st2 : A1 → A2 → A3 → List Value) (I : A1 → A2 → A3 → Array Slot → Prop) (k2 : (∀ (a1 : A1) (a2 : A2) (a3 : A3) (ls : Array Slot), I a1 a2 a3 ls → W p l e R s m args below meth c H locs cells slots Q (F0 m pc2 ls (st2 a1 a2 a3))) → W p l e R s m args below meth c H locs cells slots Q g) (k1 : ∀ (a1 : A1) (a2 : A2) (a3 : A3) (ls : Array Slot), I a1 a2 a3 ls → W p l e R s m args below meth c H locs cells slots Q (F0 m pc2 ls (st2 a1 a2 a3))) : W p l e R s m args below meth c H locs cells slots Q g := k2 k1
theorem cx_join4 {A1 A2 A3 A4 : Type} {g : JFrame} (pc2 : Nat) (st2 : A1 → A2 → A3 → A4 → List Value) (I : A1 → A2 → A3 → A4 → Heap → List Loc → Array Slot → Prop) (k2 : (∀ (a1 : A1) (a2 : A2) (a3 : A3) (a4 : A4) (H : Heap) (locs : List Loc) (ls : Array Slot), I a1 a2 a3 a4 H locs ls → W p l e R s m args below meth c H locs cells slots Q (F0 m pc2 ls (st2 a1 a2 a3 a4))) → W p l e R s m args below meth c H locs cells slots Q g) (k1 : ∀ (a1 : A1) (a2 : A2) (a3 : A3) (a4 : A4) (H : Heap) (locs : List Loc) (ls : Array Slot), I a1 a2 a3 a4 H locs ls → W p l e R s m args below meth c H locs cells slots Q (F0 m pc2 ls (st2 a1 a2 a3 a4))) : W p l e R s m args below meth c H locs cells slots Q g := k2 k1
theorem cx_joinR4 {A1 A2 A3 A4 : Type} {g : JFrame} (pc2 : Nat) (st2 : A1 → A2 → A3 → A4 → List Value) (I : A1 → A2 → A3 → A4 → Array Slot → Prop) (k2 : (∀ (a1 : A1) (a2 : A2) (a3 : A3) (a4 : A4) (ls : Array Slot), I a1 a2 a3 a4 ls → W p l e R s m args below meth c H locs cells slots Q (F0 m pc2 ls (st2 a1 a2 a3 a4))) → W p l e R s m args below meth c H locs cells slots Q g) (k1 : ∀ (a1 : A1) (a2 : A2) (a3 : A3) (a4 : A4) (ls : Array Slot), I a1 a2 a3 a4 ls → W p l e R s m args below meth c H locs cells slots Q (F0 m pc2 ls (st2 a1 a2 a3 a4))) : W p l e R s m args below meth c H locs cells slots Q g := k2 k1
theorem cx_join5 {A1 A2 A3 A4 A5 : Type} {g : JFrame} (pc2 : Nat) (st2 : A1 → A2 → A3 → A4 → A5 → List Value) (I : A1 → A2 → A3 → A4 → A5 → Heap → List Loc → Array Slot → Prop) (k2 : (∀ (a1 : A1) (a2 : A2) (a3 : A3) (a4 : A4) (a5 : A5) (H : Heap) (locs : List Loc) (ls : Array Slot), I a1 a2 a3 a4 a5 H locs ls → W p l e R s m args below meth c H locs cells slots Q (F0 m pc2 ls (st2 a1 a2 a3 a4 a5))) → W p l e R s m args below meth c H locs cells slots Q g) (k1 : ∀ (a1 : A1) (a2 : A2) (a3 : A3) (a4 : A4) (a5 : A5) (H : Heap) (locs : List Loc) (ls : Array Slot), I a1 a2 a3 a4 a5 H locs ls → W p l e R s m args below meth c H locs cells slots Q (F0 m pc2 ls (st2 a1 a2 a3 a4 a5))) : W p l e R s m args below meth c H locs cells slots Q g := k2 k1
theorem cx_joinR5 {A1 A2 A3 A4 A5 : Type} {g : JFrame} (pc2 : Nat) (st2 : A1 → A2 → A3 → A4 → A5 → List Value) (I : A1 → A2 → A3 → A4 → A5 → Array Slot → Prop) (k2 : (∀ (a1 : A1) (a2 : A2) (a3 : A3) (a4 : A4) (a5 : A5) (ls : Array Slot), I a1 a2 a3 a4 a5 ls → W p l e R s m args below meth c H locs cells slots Q (F0 m pc2 ls (st2 a1 a2 a3 a4 a5))) → W p l e R s m args below meth c H locs cells slots Q g) (k1 : ∀ (a1 : A1) (a2 : A2) (a3 : A3) (a4 : A4) (a5 : A5) (ls : Array Slot), I a1 a2 a3 a4 a5 ls → W p l e R s m args below meth c H locs cells slots Q (F0 m pc2 ls (st2 a1 a2 a3 a4 a5))) : W p l e R s m args below meth c H locs cells slots Q g := k2 k1
theorem cx_join6 {A1 A2 A3 A4 A5 A6 : Type} {g : JFrame} (pc2 : Nat) (st2 : A1 → A2 → A3 → A4 → A5 → A6 → List Value) (I : A1 → A2 → A3 → A4 → A5 → A6 → Heap → List Loc → Array Slot → Prop) (k2 : (∀ (a1 : A1) (a2 : A2) (a3 : A3) (a4 : A4) (a5 : A5) (a6 : A6) (H : Heap) (locs : List Loc) (ls : Array Slot), I a1 a2 a3 a4 a5 a6 H locs ls → W p l e R s m args below meth c H locs cells slots Q (F0 m pc2 ls (st2 a1 a2 a3 a4 a5 a6))) → W p l e R s m args below meth c H locs cells slots Q g) (k1 : ∀ (a1 : A1) (a2 : A2) (a3 : A3) (a4 : A4) (a5 : A5) (a6 : A6) (H : Heap) (locs : List Loc) (ls : Array Slot), I a1 a2 a3 a4 a5 a6 H locs ls → W p l e R s m args below meth c H locs cells slots Q (F0 m pc2 ls (st2 a1 a2 a3 a4 a5 a6))) : W p l e R s m args below meth c H locs cells slots Q g := k2 k1
theorem cx_joinR6 {A1 A2 A3 A4 A5 A6 : Type} {g : JFrame} (pc2 : Nat) (st2 : A1 → A2 → A3 → A4 → A5 → A6 → List Value) (I : A1 → A2 → A3 → A4 → A5 → A6 → Array Slot → Prop) (k2 : (∀ (a1 : A1) (a2 : A2) (a3 : A3) (a4 : A4) (a5 : A5) (a6 : A6) (ls : Array Slot), I a1 a2 a3 a4 a5 a6 ls → W p l e R s m args below meth c H locs cells slots Q (F0 m pc2 ls (st2 a1 a2 a3 a4 a5 a6))) → W p l e R s m args below meth c H locs cells slots Q g) (k1 : ∀ (a1 : A1) (a2 : A2) (a3 : A3) (a4 : A4) (a5 : A5) (a6 : A6) (ls : Array Slot), I a1 a2 a3 a4 a5 a6 ls → W p l e R s m args below meth c H locs cells slots Q (F0 m pc2 ls (st2 a1 a2 a3 a4 a5 a6))) : W p l e R s m args below meth c H locs cells slots Q g := k2 k1
theorem cx_join7 {A1 A2 A3 A4 A5 A6 A7 : Type} {g : JFrame} (pc2 : Nat) (st2 : A1 → A2 → A3 → A4 → A5 → A6 → A7 → List Value) (I : A1 → A2 → A3 → A4 → A5 → A6 → A7 → Heap → List Loc → Array Slot → Prop) (k2 : (∀ (a1 : A1) (a2 : A2) (a3 : A3) (a4 : A4) (a5 : A5) (a6 : A6) (a7 : A7) (H : Heap) (locs : List Loc) (ls : Array Slot), I a1 a2 a3 a4 a5 a6 a7 H locs ls → W p l e R s m args below meth c H locs cells slots Q (F0 m pc2 ls (st2 a1 a2 a3 a4 a5 a6 a7))) → W p l e R s m args below meth c H locs cells slots Q g) (k1 : ∀ (a1 : A1) (a2 : A2) (a3 : A3) (a4 : A4) (a5 : A5) (a6 : A6) (a7 : A7) (H : Heap) (locs : List Loc) (ls : Array Slot), I a1 a2 a3 a4 a5 a6 a7 H locs ls → W p l e R s m args below meth c H locs cells slots Q (F0 m pc2 ls (st2 a1 a2 a3 a4 a5 a6 a7))) : W p l e R s m args below meth c H locs cells slots Q g := k2 k1
theorem cx_joinR7 {A1 A2 A3 A4 A5 A6 A7 : Type} {g : JFrame} (pc2 : Nat) (st2 : A1 → A2 → A3 → A4 → A5 → A6 → A7 → List Value) (I : A1 → A2 → A3 → A4 → A5 → A6 → A7 → Array Slot → Prop) (k2 : (∀ (a1 : A1) (a2 : A2) (a3 : A3) (a4 : A4) (a5 : A5) (a6 : A6) (a7 : A7) (ls : Array Slot), I a1 a2 a3 a4 a5 a6 a7 ls → W p l e R s m args below meth c H locs cells slots Q (F0 m pc2 ls (st2 a1 a2 a3 a4 a5 a6 a7))) → W p l e R s m args below meth c H locs cells slots Q g) (k1 : ∀ (a1 : A1) (a2 : A2) (a3 : A3) (a4 : A4) (a5 : A5) (a6 : A6) (a7 : A7) (ls : Array Slot), I a1 a2 a3 a4 a5 a6 a7 ls → W p l e R s m args below meth c H locs cells slots Q (F0 m pc2 ls (st2 a1 a2 a3 a4 a5 a6 a7))) : W p l e R s m args below meth c H locs cells slots Q g := k2 k1
theorem cx_join8 {A1 A2 A3 A4 A5 A6 A7 A8 : Type} {g : JFrame} (pc2 : Nat) (st2 : A1 → A2 → A3 → A4 → A5 → A6 → A7 → A8 → List Value) (I : A1 → A2 → A3 → A4 → A5 → A6 → A7 → A8 → Heap → List Loc → Array Slot → Prop) (k2 : (∀ (a1 : A1) (a2 : A2) (a3 : A3) (a4 : A4) (a5 : A5) (a6 : A6) (a7 : A7) (a8 : A8) (H : Heap) (locs : List Loc) (ls : Array Slot), I a1 a2 a3 a4 a5 a6 a7 a8 H locs ls → W p l e R s m args below meth c H locs cells slots Q (F0 m pc2 ls (st2 a1 a2 a3 a4 a5 a6 a7 a8))) → W p l e R s m args below meth c H locs cells slots Q g) (k1 : ∀ (a1 : A1) (a2 : A2) (a3 : A3) (a4 : A4) (a5 : A5) (a6 : A6) (a7 : A7) (a8 : A8) (H : Heap) (locs : List Loc) (ls : Array Slot), I a1 a2 a3 a4 a5 a6 a7 a8 H locs ls → W p l e R s m args below meth c H locs cells slots Q (F0 m pc2 ls (st2 a1 a2 a3 a4 a5 a6 a7 a8))) : W p l e R s m args below meth c H locs cells slots Q g := k2 k1
theorem cx_joinR8 {A1 A2 A3 A4 A5 A6 A7 A8 : Type} {g : JFrame} (pc2 : Nat) (st2 : A1 → A2 → A3 → A4 → A5 → A6 → A7 → A8 → List Value) (I : A1 → A2 → A3 → A4 → A5 → A6 → A7 → A8 → Array Slot → Prop) (k2 : (∀ (a1 : A1) (a2 : A2) (a3 : A3) (a4 : A4) (a5 : A5) (a6 : A6) (a7 : A7) (a8 : A8) (ls : Array Slot), I a1 a2 a3 a4 a5 a6 a7 a8 ls → W p l e R s m args below meth c H locs cells slots Q (F0 m pc2 ls (st2 a1 a2 a3 a4 a5 a6 a7 a8))) → W p l e R s m args below meth c H locs cells slots Q g) (k1 : ∀ (a1 : A1) (a2 : A2) (a3 : A3) (a4 : A4) (a5 : A5) (a6 : A6) (a7 : A7) (a8 : A8) (ls : Array Slot), I a1 a2 a3 a4 a5 a6 a7 a8 ls → W p l e R s m args below meth c H locs cells slots Q (F0 m pc2 ls (st2 a1 a2 a3 a4 a5 a6 a7 a8))) : W p l e R s m args below meth c H locs cells slots Q g := k2 k1
theorem cx_topi {x y : Int32} (h : x = y) (k : W p l e R s m args below meth c H locs cells slots Q (F0 m pc ls (.int y :: rest))) : W p l e R s m args below meth c H locs cells slots Q (F0 m pc ls (.int x :: rest)) := by rw [h]; exact k
theorem cx_topl {x y : Int64} (h : x = y) (k : W p l e R s m args below meth c H locs cells slots Q (F0 m pc ls (.long y :: rest))) : W p l e R s m args below meth c H locs cells slots Q (F0 m pc ls (.long x :: rest)) := by rw [h]; exact k
theorem cx_iadd (hexec : p.tables.exec = Jvm.exec) (hb : c.code = cc) {x y : Nat} (hdg : decode cc pc = .ok (.iadd, 1)) (k : W p l e R s m args below meth c H locs cells slots Q (F0 m (pc + 1) ls (.int (nI (x + y)) :: rest))) : W p l e R s m args below meth c H locs cells slots Q (F0 m pc ls (.int (nI y) :: .int (nI x) :: rest)) := lv_iadd hexec hb hdg (cx_topi (nI_add x y) k)
theorem cx_isub (hexec : p.tables.exec = Jvm.exec) (hb : c.code = cc) {x y : Nat} (hdg : decode cc pc = .ok (.isub, 1)) (h : y ≤ x) (k : W p l e R s m args below meth c H locs cells slots Q (F0 m (pc + 1) ls (.int (nI (x - y)) :: rest))) : W p l e R s m args below meth c H locs cells slots Q (F0 m pc ls (.int (nI y) :: .int (nI x) :: rest)) := lv_isub hexec hb hdg (cx_topi (pk_sub h) k)
theorem cx_ladd (hexec : p.tables.exec = Jvm.exec) (hb : c.code = cc) {x y : Nat} (hdg : decode cc pc = .ok (.ladd, 1)) (k : W p l e R s m args below meth c H locs cells slots Q (F0 m (pc + 1) ls (.long (lN (x + y)) :: rest))) : W p l e R s m args below meth c H locs cells slots Q (F0 m pc ls (.long (lN y) :: .long (lN x) :: rest)) := lv_ladd hexec hb hdg (cx_topl (lN_add x y) k)
theorem cx_lsub (hexec : p.tables.exec = Jvm.exec) (hb : c.code = cc) {x y : Nat} (hdg : decode cc pc = .ok (.lsub, 1)) (h : y ≤ x) (k : W p l e R s m args below meth c H locs cells slots Q (F0 m (pc + 1) ls (.long (lN (x - y)) :: rest))) : W p l e R s m args below meth c H locs cells slots Q (F0 m pc ls (.long (lN y) :: .long (lN x) :: rest)) := lv_lsub hexec hb hdg (cx_topl (lN_sub h) k)
theorem cx_inc1 {x : Nat} : nI x + Int32.ofInt 1 = nI (x + 1) := nI_1 x
theorem cx_dec1 {x : Nat} : nI x + Int32.ofInt (-1) = aI x := by
  cases x with
  | zero => decide
  | succ k => exact pk_m1 k
theorem cx_narB (b : Bool) : narrow .boolean (.int (bI b)) = .int (bI b) := by cases b <;> decide
theorem bI_t {b : Bool} (h : b = true) : nI 1 = bI b := by rw [h]; rfl
theorem bI_f {b : Bool} (h : b = false) : nI 0 = bI b := by rw [h]; rfl
theorem cx_neq (hexec : p.tables.exec = Jvm.exec) (hb : c.code = cc) {x : Nat} {off : Int} {tgt : Nat} (hdg : decode cc pc = .ok (.ifCond .eq off, 3)) (ht : (pc : Int) + off = (tgt : Int)) (hx : x < 2 ^ 31) (kt : x = 0 → W p l e R s m args below meth c H locs cells slots Q (F0 m tgt ls rest)) (kf : ¬ x = 0 → W p l e R s m args below meth c H locs cells slots Q (F0 m (pc + 3) ls rest)) : W p l e R s m args below meth c H locs cells slots Q (F0 m pc ls (.int (nI x) :: rest)) := lv_if_eq hexec hb hdg ht (fun h => kt ((nI_eq hx (by decide)).mp (h.trans nI_0.symm))) (fun h => kf (fun q => h (by rw [q]; rfl)))
theorem cx_nne (hexec : p.tables.exec = Jvm.exec) (hb : c.code = cc) {x : Nat} {off : Int} {tgt : Nat} (hdg : decode cc pc = .ok (.ifCond .ne off, 3)) (ht : (pc : Int) + off = (tgt : Int)) (hx : x < 2 ^ 31) (kt : ¬ x = 0 → W p l e R s m args below meth c H locs cells slots Q (F0 m tgt ls rest)) (kf : x = 0 → W p l e R s m args below meth c H locs cells slots Q (F0 m (pc + 3) ls rest)) : W p l e R s m args below meth c H locs cells slots Q (F0 m pc ls (.int (nI x) :: rest)) := lv_if_ne hexec hb hdg ht (fun h => kt (fun q => h (by rw [q]; rfl))) (fun h => kf ((nI_eq hx (by decide)).mp (h.trans nI_0.symm)))
theorem cx_nle (hexec : p.tables.exec = Jvm.exec) (hb : c.code = cc) {x : Nat} {off : Int} {tgt : Nat} (hdg : decode cc pc = .ok (.ifCond .le off, 3)) (ht : (pc : Int) + off = (tgt : Int)) (hx : x < 2 ^ 31) (kt : x = 0 → W p l e R s m args below meth c H locs cells slots Q (F0 m tgt ls rest)) (kf : 0 < x → W p l e R s m args below meth c H locs cells slots Q (F0 m (pc + 3) ls rest)) : W p l e R s m args below meth c H locs cells slots Q (F0 m pc ls (.int (nI x) :: rest)) := lv_if_le hexec hb hdg ht (fun h => kt (Nat.le_zero.mp (Nat.le_of_not_lt fun q => nI_nle q hx h))) (fun h => kf (Nat.pos_of_ne_zero fun q => h (by rw [q]; decide)))
theorem cx_ngt (hexec : p.tables.exec = Jvm.exec) (hb : c.code = cc) {x : Nat} {off : Int} {tgt : Nat} (hdg : decode cc pc = .ok (.ifCond .gt off, 3)) (ht : (pc : Int) + off = (tgt : Int)) (hx : x < 2 ^ 31) (kt : 0 < x → W p l e R s m args below meth c H locs cells slots Q (F0 m tgt ls rest)) (kf : x = 0 → W p l e R s m args below meth c H locs cells slots Q (F0 m (pc + 3) ls rest)) : W p l e R s m args below meth c H locs cells slots Q (F0 m pc ls (.int (nI x) :: rest)) := lv_if_gt hexec hb hdg ht (fun h => kt (Nat.pos_of_ne_zero fun q => absurd h (by rw [q]; decide))) (fun h => kf (Nat.le_zero.mp (Nat.le_of_not_lt fun q => h ((nI_ltI (by decide) hx).mpr q))))
theorem cx_nlt (hexec : p.tables.exec = Jvm.exec) (hb : c.code = cc) {x : Nat} {off : Int} {tgt : Nat} (hdg : decode cc pc = .ok (.ifCond .lt off, 3)) (ht : (pc : Int) + off = (tgt : Int)) (hx : x < 2 ^ 31) (kf : W p l e R s m args below meth c H locs cells slots Q (F0 m (pc + 3) ls rest)) : W p l e R s m args below meth c H locs cells slots Q (F0 m pc ls (.int (nI x) :: rest)) := lv_if_lt hexec hb hdg ht (fun h => absurd h (nI_pos hx)) (fun _ => kf)
theorem cx_nge (hexec : p.tables.exec = Jvm.exec) (hb : c.code = cc) {x : Nat} {off : Int} {tgt : Nat} (hdg : decode cc pc = .ok (.ifCond .ge off, 3)) (ht : (pc : Int) + off = (tgt : Int)) (hx : x < 2 ^ 31) (kt : W p l e R s m args below meth c H locs cells slots Q (F0 m tgt ls rest)) : W p l e R s m args below meth c H locs cells slots Q (F0 m pc ls (.int (nI x) :: rest)) := lv_if_ge hexec hb hdg ht (fun _ => kt) (fun h => absurd (nI_pos' hx) h)
theorem cx_age (hexec : p.tables.exec = Jvm.exec) (hb : c.code = cc) {x : Nat} {off : Int} {tgt : Nat} (hdg : decode cc pc = .ok (.ifCond .ge off, 3)) (ht : (pc : Int) + off = (tgt : Int)) (hx : x ≤ 2 ^ 31) (kt : ¬ x = 0 → W p l e R s m args below meth c H locs cells slots Q (F0 m tgt ls rest)) (kf : x = 0 → W p l e R s m args below meth c H locs cells slots Q (F0 m (pc + 3) ls rest)) : W p l e R s m args below meth c H locs cells slots Q (F0 m pc ls (.int (aI x) :: rest)) := lv_if_ge hexec hb hdg ht (fun h => kt fun q => absurd h (by rw [q]; decide)) (fun h => kf (by
  cases x with
  | zero => rfl
  | succ k => exact absurd (nI_pos' (by omega)) h))
theorem cx_llt (hexec : p.tables.exec = Jvm.exec) (hb : c.code = cc) {x y : Nat} {off : Int} {tgt : Nat} (hd1 : decode cc pc = .ok (.lcmp, 1)) (hdg : decode cc (pc + 1) = .ok (.ifCond .lt off, 3)) (ht : ((pc + 1 : Nat) : Int) + off = (tgt : Int)) (hx : x < 2 ^ 63) (hy : y < 2 ^ 63) (kt : x < y → W p l e R s m args below meth c H locs cells slots Q (F0 m tgt ls rest)) (kf : y ≤ x → W p l e R s m args below meth c H locs cells slots Q (F0 m (pc + 1 + 3) ls rest)) : W p l e R s m args below meth c H locs cells slots Q (F0 m pc ls (.long (lN y) :: .long (lN x) :: rest)) := by
  refine W.lcmp hexec hb hd1 (lv_if_lt hexec hb hdg ht (fun h => kt ?_) (fun h => kf ?_))
  · exact cx_cmp_lt_t hx hy h
  · exact cx_cmp_lt_f hx hy h
theorem cx_lge (hexec : p.tables.exec = Jvm.exec) (hb : c.code = cc) {x y : Nat} {off : Int} {tgt : Nat} (hd1 : decode cc pc = .ok (.lcmp, 1)) (hdg : decode cc (pc + 1) = .ok (.ifCond .ge off, 3)) (ht : ((pc + 1 : Nat) : Int) + off = (tgt : Int)) (hx : x < 2 ^ 63) (hy : y < 2 ^ 63) (kt : y ≤ x → W p l e R s m args below meth c H locs cells slots Q (F0 m tgt ls rest)) (kf : x < y → W p l e R s m args below meth c H locs cells slots Q (F0 m (pc + 1 + 3) ls rest)) : W p l e R s m args below meth c H locs cells slots Q (F0 m pc ls (.long (lN y) :: .long (lN x) :: rest)) := by
  refine W.lcmp hexec hb hd1 (lv_if_ge hexec hb hdg ht (fun h => kt ?_) (fun h => kf ?_))
  · exact cx_cmp_ge_t hx hy h
  · exact cx_cmp_ge_f hx hy h
theorem cx_lle (hexec : p.tables.exec = Jvm.exec) (hb : c.code = cc) {x y : Nat} {off : Int} {tgt : Nat} (hd1 : decode cc pc = .ok (.lcmp, 1)) (hdg : decode cc (pc + 1) = .ok (.ifCond .le off, 3)) (ht : ((pc + 1 : Nat) : Int) + off = (tgt : Int)) (hx : x < 2 ^ 63) (hy : y < 2 ^ 63) (kt : x ≤ y → W p l e R s m args below meth c H locs cells slots Q (F0 m tgt ls rest)) (kf : y < x → W p l e R s m args below meth c H locs cells slots Q (F0 m (pc + 1 + 3) ls rest)) : W p l e R s m args below meth c H locs cells slots Q (F0 m pc ls (.long (lN y) :: .long (lN x) :: rest)) := by
  refine W.lcmp hexec hb hd1 (lv_if_le hexec hb hdg ht (fun h => kt ?_) (fun h => kf ?_))
  · exact cx_cmp_le_t hx hy h
  · exact cx_cmp_le_f hx hy h
theorem cx_lgt (hexec : p.tables.exec = Jvm.exec) (hb : c.code = cc) {x y : Nat} {off : Int} {tgt : Nat} (hd1 : decode cc pc = .ok (.lcmp, 1)) (hdg : decode cc (pc + 1) = .ok (.ifCond .gt off, 3)) (ht : ((pc + 1 : Nat) : Int) + off = (tgt : Int)) (hx : x < 2 ^ 63) (hy : y < 2 ^ 63) (kt : y < x → W p l e R s m args below meth c H locs cells slots Q (F0 m tgt ls rest)) (kf : x ≤ y → W p l e R s m args below meth c H locs cells slots Q (F0 m (pc + 1 + 3) ls rest)) : W p l e R s m args below meth c H locs cells slots Q (F0 m pc ls (.long (lN y) :: .long (lN x) :: rest)) := by
  refine W.lcmp hexec hb hd1 (lv_if_gt hexec hb hdg ht (fun h => kt ?_) (fun h => kf ?_))
  · exact cx_cmp_gt_t hx hy h
  · exact cx_cmp_gt_f hx hy h
theorem cx_leq (hexec : p.tables.exec = Jvm.exec) (hb : c.code = cc) {x y : Nat} {off : Int} {tgt : Nat} (hd1 : decode cc pc = .ok (.lcmp, 1)) (hdg : decode cc (pc + 1) = .ok (.ifCond .eq off, 3)) (ht : ((pc + 1 : Nat) : Int) + off = (tgt : Int)) (hx : x < 2 ^ 63) (hy : y < 2 ^ 63) (kt : x = y → W p l e R s m args below meth c H locs cells slots Q (F0 m tgt ls rest)) (kf : ¬ x = y → W p l e R s m args below meth c H locs cells slots Q (F0 m (pc + 1 + 3) ls rest)) : W p l e R s m args below meth c H locs cells slots Q (F0 m pc ls (.long (lN y) :: .long (lN x) :: rest)) := by
  refine W.lcmp hexec hb hd1 (lv_if_eq hexec hb hdg ht (fun h => kt ?_) (fun h => kf ?_))
  · exact cx_cmp_eq_t hx hy h
  · exact cx_cmp_eq_f hx hy h
theorem cx_lne (hexec : p.tables.exec = Jvm.exec) (hb : c.code = cc) {x y : Nat} {off : Int} {tgt : Nat} (hd1 : decode cc pc = .ok (.lcmp, 1)) (hdg : decode cc (pc + 1) = .ok (.ifCond .ne off, 3)) (ht : ((pc + 1 : Nat) : Int) + off = (tgt : Int)) (hx : x < 2 ^ 63) (hy : y < 2 ^ 63) (kt : ¬ x = y → W p l e R s m args below meth c H locs cells slots Q (F0 m tgt ls rest)) (kf : x = y → W p l e R s m args below meth c H locs cells slots Q (F0 m (pc + 1 + 3) ls rest)) : W p l e R s m args below meth c H locs cells slots Q (F0 m pc ls (.long (lN y) :: .long (lN x) :: rest)) := by
  refine W.lcmp hexec hb hd1 (lv_if_ne hexec hb hdg ht (fun h => kt ?_) (fun h => kf ?_))
  · exact cx_cmp_ne_t hx hy h
  · exact cx_cmp_ne_f hx hy h
end CX2
end
section
/-! one step of each loop; labels that agree below n -/
theorem cg_ok_B {n : Nat} {f : Nat → Nat} (h : cg_ok n f) : ∀ u, u < n → f u < n := fun u hu => Nat.lt_of_le_of_lt (h u hu).1 hu
theorem cg_ok_ag {n : Nat} {f g : Nat → Nat} (h : ∀ u, u < n → g u = f u) (k : cg_ok n f) : cg_ok n g := by
  intro t ht
  have a := k t ht
  rw [h t ht]
  refine ⟨a.1, ?_⟩
  rw [h (f t) (by omega)]
  exact a.2
theorem cg_ar_ne {f : Nat → Nat} {x y : Nat} (h : x = 0 ∨ y = 0) (ne : ¬ x = y) : ¬ cg_ar f x = cg_ar f y := by
  cases x with
  | zero =>
    cases y with
    | zero => exact absurd rfl ne
    | succ y => exact fun e => absurd (show (0 : Nat) = f y + 1 from e) (by omega)
  | succ x =>
    cases y with
    | zero => exact fun e => absurd (show f x + 1 = (0 : Nat) from e) (by omega)
    | succ y => exact absurd h (by omega)
theorem cg_ar_s {f : Nat → Nat} {x y : Nat} : cg_ar f (x + 1) = cg_ar f (y + 1) ↔ f x = f y := by
  show f x + 1 = f y + 1 ↔ f x = f y
  omega
theorem cg_cn_y {f : Nat → Nat} {c t : Nat} (hc : c = cg_cn f t) (h : f t = t) : c + 1 = cg_cn f (t + 1) := by
  show c + 1 = cg_cn f t + (if f t = t then 1 else 0)
  rw [if_pos h, hc]
theorem cg_cn_n {f : Nat → Nat} {c t : Nat} (hc : c = cg_cn f t) (h : ¬ f t = t) : c = cg_cn f (t + 1) := by
  show c = cg_cn f t + (if f t = t then 1 else 0)
  rw [if_neg h, hc]; rfl
theorem cg_ct_y {P : Nat → Bool} {c t : Nat} (hc : c = cg_ct P t) (h : P t = true) : c + 1 = cg_ct P (t + 1) := by
  show c + 1 = cg_ct P t + (if P t = true then 1 else 0)
  rw [if_pos h, hc]
theorem cg_ct_n {P : Nat → Bool} {c t : Nat} (hc : c = cg_ct P t) (h : P t = false) : c = cg_ct P (t + 1) := by
  show c = cg_ct P t + (if P t = true then 1 else 0)
  rw [if_neg (by rw [h]; decide), hc]; rfl
/-- a merging that has come up to v -/
def cg_mu (n : Nat) (f : Nat → Nat) (i j v : Nat) : Nat → Nat := fun u => if u < v then cg_mg n f i j u else f u
theorem cg_mu_0 {n : Nat} {f : Nat → Nat} {i j : Nat} : f = cg_mu n f i j 0 := by
  funext u
  unfold cg_mu
  rw [if_neg (Nat.not_lt_zero u)]
theorem cg_mu_at {n : Nat} {f g : Nat → Nat} {i j v : Nat} (hg : g = cg_mu n f i j v) : g v = f v := by
  rw [hg]
  unfold cg_mu
  rw [if_neg (Nat.lt_irrefl v)]
theorem cg_mu_y {n : Nat} {f g : Nat → Nat} {i j v : Nat} (hg : g = cg_mu n f i j v) (hv : v < n) (h : g v = max (f i) (f j)) : wt_u g v (min (f i) (f j)) = cg_mu n f i j (v + 1) := by
  have h2 := cg_mu_at hg
  rw [h2] at h
  funext u
  unfold wt_u
  by_cases e : u = v
  · rw [if_pos e, e]
    unfold cg_mu
    rw [if_pos (Nat.lt_succ_self v), cg_mg_y hv h]
  · rw [if_neg e, hg]
    unfold cg_mu
    by_cases q : u < v
    · rw [if_pos q, if_pos (by omega)]
    · rw [if_neg q, if_neg (by omega)]
theorem cg_mu_n {n : Nat} {f g : Nat → Nat} {i j v : Nat} (hg : g = cg_mu n f i j v) (h : ¬ g v = max (f i) (f j)) : g = cg_mu n f i j (v + 1) := by
  have h2 := cg_mu_at hg
  rw [h2] at h
  funext u
  rw [hg]
  unfold cg_mu
  by_cases e : u = v
  · rw [if_neg (by omega), if_pos (by omega), e, cg_mg_n h]
  · by_cases q : u < v
    · rw [if_pos q, if_pos (by omega)]
    · rw [if_neg q, if_neg (by omega)]
theorem cg_mu_e {n : Nat} {f g : Nat → Nat} {i j v : Nat} (hg : g = cg_mu n f i j v) (h : n ≤ v) : g = cg_mg n f i j := by
  funext u
  rw [hg]
  unfold cg_mu
  by_cases q : u < v
  · rw [if_pos q]
  · rw [if_neg q]
    unfold cg_mg
    rw [if_neg (fun z => absurd z.1 (by omega))]
theorem cg_lk_s {T : cg_T} {f : Nat → Nat} {s t : Nat} (h : cg_lk T f s t) : cg_lk T f t s := ⟨h.1.symm, h.2.1.symm, h.2.2.symm⟩
theorem cg_in_y {T : cg_T} {n v q : Nat} {p : cg_P} {g : Nat → Nat} {ch : Bool} (hg : (g, ch) = cg_in T n p v q) (h1 : ¬ g q = g v) (h2 : cg_lk T g q v) : (cg_mg n g q v, true) = cg_in T n p v (q + 1) := by
  show _ = cg_st T n (cg_in T n p v q) v q
  rw [← hg]
  unfold cg_st
  rw [if_pos ⟨fun e => h1 e.symm, cg_lk_s h2⟩, cg_mg_cm]
theorem cg_in_n {T : cg_T} {n v q : Nat} {p : cg_P} {g : Nat → Nat} {ch : Bool} (hg : (g, ch) = cg_in T n p v q) (h : g q = g v ∨ ¬ cg_lk T g q v) : (g, ch) = cg_in T n p v (q + 1) := by
  show _ = cg_st T n (cg_in T n p v q) v q
  rw [← hg]
  unfold cg_st
  rw [if_neg (fun z => h.elim (fun e => z.1 e.symm) (fun e => e (cg_lk_s z.2)))]
theorem cg_in_ok {T : cg_T} {n v q : Nat} {f g : Nat → Nat} {ch : Bool} (k : cg_ok n f) (hg : (g, ch) = cg_in T n (cg_ou T n (f, false) v) v q) (hv : v < n) (hq : q ≤ n) : cg_ok n g := by
  have a := (cg_in_ch (T := T) (cg_ou_ch (T := T) (p := (f, false)) k v (by omega)).1 (s := v) hv q hq).1
  rw [← hg] at a
  exact a
/-- agreement below n -/
def cg_pa (n : Nat) (p q : cg_P) : Prop := p.2 = q.2 ∧ ∀ u, u < n → p.1 u = q.1 u
theorem cg_lk_ag {T : cg_T} {n : Nat} {f g : Nat → Nat} (w : cg_wf T n) (h : ∀ u, u < n → g u = f u) {s t : Nat} (hs : s < n) (ht : t < n) : cg_lk T g s t ↔ cg_lk T f s t := by
  have a := w s hs
  have b := w t ht
  show (T.1 s = T.1 t ∧ cg_ar g (T.2.1 s) = cg_ar g (T.2.1 t) ∧ cg_ar g (T.2.2 s) = cg_ar g (T.2.2 t)) ↔ _
  rw [cg_ar_ag h (x := T.2.1 s) (by omega), cg_ar_ag h (x := T.2.1 t) (by omega), cg_ar_ag h (x := T.2.2 s) (by omega), cg_ar_ag h (x := T.2.2 t) (by omega)]
theorem cg_st_ag {T : cg_T} {n : Nat} {p q : cg_P} (w : cg_wf T n) (h : cg_pa n p q) {s t : Nat} (hs : s < n) (ht : t < n) : cg_pa n (cg_st T n p s t) (cg_st T n q s t) := by
  have e : (p.1 s ≠ p.1 t ∧ cg_lk T p.1 s t) ↔ (q.1 s ≠ q.1 t ∧ cg_lk T q.1 s t) := by
    rw [cg_lk_ag w h.2 hs ht, h.2 s hs, h.2 t ht]
  unfold cg_st
  by_cases c : p.1 s ≠ p.1 t ∧ cg_lk T p.1 s t
  · rw [if_pos c, if_pos (e.mp c)]
    exact ⟨rfl, cg_mg_ag h.2 hs ht⟩
  · rw [if_neg c, if_neg (fun z => c (e.mpr z))]
    exact h
theorem cg_in_ag {T : cg_T} {n : Nat} {p q : cg_P} (w : cg_wf T n) (h : cg_pa n p q) {s : Nat} (hs : s < n) : ∀ t, t ≤ n → cg_pa n (cg_in T n p s t) (cg_in T n q s t) := by
  intro t
  induction t with
  | zero => intro _; exact h
  | succ t ih => intro ht; exact cg_st_ag w (ih (by omega)) hs (by omega)
theorem cg_ou_ag {T : cg_T} {n : Nat} {p q : cg_P} (w : cg_wf T n) (h : cg_pa n p q) : ∀ s, s ≤ n → cg_pa n (cg_ou T n p s) (cg_ou T n q s) := by
  intro s
  induction s with
  | zero => intro _; exact h
  | succ s ih => intro hs; exact cg_in_ag w (ih (by omega)) (by omega) s (by omega)
theorem cg_rd_ag {T : cg_T} {n : Nat} {f g : Nat → Nat} (w : cg_wf T n) (h : ∀ u, u < n → g u = f u) : cg_pa n (cg_rd T n g) (cg_rd T n f) := cg_ou_ag (p := (g, false)) (q := (f, false)) w ⟨rfl, h⟩ n (Nat.le_refl _)
/-! settling: alone, the equations, the rounds -/
theorem cg_id_s {g : Nat → Nat} {v : Nat} (h : ∀ u, u < v → g u = u) : ∀ u, u < v + 1 → wt_u g v v u = u := by
  intro u hu
  unfold wt_u
  by_cases e : u = v
  · rw [if_pos e, e]
  · rw [if_neg e]; exact h u (by omega)
theorem cg_eq_y {n i : Nat} {le ri : Nat → Nat} {S : Nat → Bool} {g : Nat → Nat} (h : ∀ u, u < n → g u = cg_eq n le ri S i u) (hl : le i < n) (hr : ri i < n) (hS : S i = true) : ∀ u, u < n → cg_mg n g (le i) (ri i) u = cg_eq n le ri S (i + 1) u := by
  have e : cg_eq n le ri S (i + 1) = cg_mg n (cg_eq n le ri S i) (le i) (ri i) := if_pos hS
  rw [e]
  exact cg_mg_ag h hl hr
theorem cg_eq_n {n i : Nat} {le ri : Nat → Nat} {S : Nat → Bool} {g : Nat → Nat} (h : ∀ u, u < n → g u = cg_eq n le ri S i u) (hS : S i = false) : ∀ u, u < n → g u = cg_eq n le ri S (i + 1) u := by
  have e : cg_eq n le ri S (i + 1) = cg_eq n le ri S i := if_neg (by rw [hS]; decide)
  rw [e]
  exact h
theorem cg_eq_B {n i k : Nat} {le ri : Nat → Nat} {S : Nat → Bool} {g : Nat → Nat} (h : ∀ u, u < n → g u = cg_eq n le ri S i u) (w : cg_we n le ri k) (hi : i ≤ k) : ∀ u, u < n → g u < n := cg_ok_B (cg_ok_ag h (cg_eq_ok i (fun j hj => w j (by omega))))
theorem cg_rs {T : cg_T} {n r : Nat} {f g : Nat → Nat} (w : cg_wf T n) (h : ∀ u, u < n → g u = cg_it T n f r u) : ∀ u, u < n → (cg_rd T n g).1 u = cg_it T n f (r + 1) u := (cg_rd_ag w h).2
theorem cg_rc {T : cg_T} {n r : Nat} {f g : Nat → Nat} (w : cg_wf T n) (k : cg_ok n f) (h : ∀ u, u < n → g u = cg_it T n f r u) : (cg_rd T n g).2 = true ∨ cg_fx T n (cg_it T n f (r + 1)) := by
  rw [(cg_rd_ag w h).1]
  cases hb : (cg_rd T n (cg_it T n f r)).2 with
  | true => exact Or.inl rfl
  | false => exact Or.inr (cg_it_x k hb)
theorem cg_re {T : cg_T} {n r k : Nat} {le ri : Nat → Nat} {S : Nat → Bool} {g : Nat → Nat} {ch : Bool} (we : cg_we n le ri k) (h : ∀ u, u < n → g u = cg_it T n (cg_eq n le ri S k) r u) (hc : ch = true ∨ cg_fx T n (cg_it T n (cg_eq n le ri S k) r)) (q : n ≤ r ∨ ch = false) : ∀ u, u < n → g u = cg_lab T n le ri S k u := by
  have e : cg_it T n (cg_eq n le ri S k) r = cg_it T n (cg_eq n le ri S k) n := by
    refine cg_it_e (cg_eq_ok k we) ?_
    rcases q with q | q
    · exact Or.inr q
    · rcases hc with hc | hc
      · rw [q] at hc; exact absurd hc (by decide)
      · exact Or.inl hc
  rw [e] at h
  exact h
/-! weights, a step each -/
theorem wt_a_b {L w : Nat → Nat} (h : ∀ j, w j ≤ 2 ^ 60) (x : Nat) : wt_a L w x ≤ 2 ^ 60 := by
  cases x with
  | zero => exact Nat.zero_le _
  | succ k => exact h _
theorem wt_c_b {T : cg_T} {L w : Nat → Nat} (h : ∀ j, w j ≤ 2 ^ 60) (t : Nat) : wt_c T L w t ≤ 2 ^ 61 + 1 := by
  have a := wt_a_b (L := L) h (T.2.1 t)
  have b := wt_a_b (L := L) h (T.2.2 t)
  unfold wt_c
  omega
theorem wt_o_y {T : cg_T} {L : Nat → Nat} {p : cg_P} {g : Nat → Nat} {ch : Bool} {v : Nat} (hg : (g, ch) = wt_o T L p v) (h : wt_c T L g v < g (L v)) : (wt_u g (L v) (wt_c T L g v), true) = wt_o T L p (v + 1) := by
  show _ = wt_s T L (wt_o T L p v) v
  rw [← hg]
  unfold wt_s
  rw [if_pos h]
theorem wt_o_n {T : cg_T} {L : Nat → Nat} {p : cg_P} {g : Nat → Nat} {ch : Bool} {v : Nat} (hg : (g, ch) = wt_o T L p v) (h : g (L v) ≤ wt_c T L g v) : (g, ch) = wt_o T L p (v + 1) := by
  show _ = wt_s T L (wt_o T L p v) v
  rw [← hg]
  unfold wt_s
  rw [if_neg (Nat.not_lt_of_le h)]
theorem wt_o_u {T : cg_T} {L : Nat → Nat} {w g : Nat → Nat} {ch : Bool} {v : Nat} (hg : (g, ch) = wt_o T L (w, false) v) (h : ∀ j, w j ≤ 2 ^ 60) : ∀ j, g j ≤ 2 ^ 60 := by
  have a := wt_o_l0 (T := T) (L := L) (p := (w, false)) v
  rw [← hg] at a
  exact fun j => Nat.le_trans (a j) (h j)
theorem wt_is {T : cg_T} {L : Nat → Nat} {n r : Nat} {g : Nat → Nat} (h : g = wt_i T L n r) : (wt_r T L n g).1 = wt_i T L n (r + 1) := by rw [h]; rfl
theorem wt_ic {T : cg_T} {L : Nat → Nat} {n r : Nat} {g : Nat → Nat} (hL : ∀ t, t < n → L t < n) (h : g = wt_i T L n r) : (wt_r T L n g).2 = true ∨ wt_x T L n (wt_i T L n (r + 1)) := by
  rw [h]
  cases hb : (wt_r T L n (wt_i T L n r)).2 with
  | true => exact Or.inl rfl
  | false => exact Or.inr (wt_i_x hL hb)
theorem wt_ie {T : cg_T} {L : Nat → Nat} {n r : Nat} {g : Nat → Nat} {ch : Bool} (wf : cg_wf T n) (hL : ∀ t, t < n → L t < n) (hn : n ≤ 40) (h : g = wt_i T L n r) (hc : ch = true ∨ wt_x T L n (wt_i T L n r)) (q : n ≤ r ∨ ch = false) : g = wt_f T L n := by
  rw [h]
  refine wt_i_e wf hL hn ?_
  rcases q with q | q
  · exact Or.inr q
  · rcases hc with hc | hc
    · rw [q] at hc; exact absurd hc (by decide)
    · exact Or.inl hc
theorem wt_f_u {T : cg_T} {L : Nat → Nat} {n : Nat} : ∀ j, wt_f T L n j ≤ 2 ^ 60 := wt_i_u n
theorem wt_b_at {T : cg_T} {L : Nat → Nat} {n t v : Nat} (hno : ∀ u, u < v → ¬ (L u = L t ∧ wt_c T L (wt_f T L n) u = wt_f T L n (L t))) (h1 : L v = L t) (h2 : wt_c T L (wt_f T L n) v = wt_f T L n (L t)) (hv : v < n) : v = wt_b T L n t := by
  refine (cg_fs_at (by simp [h1, h2]) (fun x hx => ?_) n hv).symm
  have q := hno x hx
  simp only [Bool.and_eq_false_iff, decide_eq_false_iff_not]
  by_cases q1 : L x = L t
  · exact Or.inr fun q2 => q ⟨q1, q2⟩
  · exact Or.inl q1
theorem wt_b_s {T : cg_T} {L : Nat → Nat} {n t v : Nat} (hno : ∀ u, u < v → ¬ (L u = L t ∧ wt_c T L (wt_f T L n) u = wt_f T L n (L t))) (h : ¬ (L v = L t ∧ wt_c T L (wt_f T L n) v = wt_f T L n (L t))) : ∀ u, u < v + 1 → ¬ (L u = L t ∧ wt_c T L (wt_f T L n) u = wt_f T L n (L t)) := by
  intro u hu
  by_cases e : u = v
  · rw [e]; exact h
  · exact hno u (by omega)
theorem wt_b_d {T : cg_T} {L : Nat → Nat} {n t v : Nat} (wf : cg_wf T n) (hL : ∀ t, t < n → L t < n) (hn : n ≤ 40) (ht : t < n) (hno : ∀ u, u < v → ¬ (L u = L t ∧ wt_c T L (wt_f T L n) u = wt_f T L n (L t))) (h : n ≤ v) : False := by
  have a := wt_b_p wf hL hn ht
  exact hno _ (Nat.lt_of_lt_of_le a.1 h) a.2
/-! searching -/
def cg_sr (P : Nat → Bool) (n : Nat) : Nat := if cg_fs P n < n then cg_fs P n + 1 else 0
theorem cg_sr_y {P : Nat → Bool} {n v : Nat} (hno : ∀ u, u < v → P u = false) (h : P v = true) (hv : v < n) : v + 1 = cg_sr P n := by
  have e := cg_fs_at h hno n hv
  unfold cg_sr
  rw [e, if_pos hv]
theorem cg_sr_n {P : Nat → Bool} {n v : Nat} (hno : ∀ u, u < v → P u = false) (hv : n ≤ v) : 0 = cg_sr P n := by
  have e := cg_fs_no n (P := P) (fun u hu => hno u (by omega))
  unfold cg_sr
  rw [if_neg (by omega)]
theorem cg_sr_s {P : Nat → Bool} {v : Nat} (hno : ∀ u, u < v → P u = false) (h : P v = false) : ∀ u, u < v + 1 → P u = false := by
  intro u hu
  by_cases e : u = v
  · rw [e]; exact h
  · exact hno u (by omega)
/-! bits of a choice -/
theorem cb_1 : ∀ i, i < 32 → bt (nI 1) i = decide (i = 0) := by decide +kernel
theorem cb_one {q j : Nat} (hq : q < 32) (hj : j < 32) : bt (nI 1 <<< (nI q &&& 31)) j = decide (j = q) := by
  rw [b_shl q hq (nI 1) hj, cb_1 (j - q) (by omega)]
  by_cases h : q ≤ j
  · by_cases e : j = q
    · subst e; simp
    · rw [decide_eq_true h, decide_eq_false (by omega : ¬ j - q = 0), decide_eq_false e]; rfl
  · rw [decide_eq_false h, decide_eq_false (by omega : ¬ j = q)]; rfl
theorem cb_test {x : Int32} {q : Nat} (hq : q < 32) : x &&& (nI 1 <<< (nI q &&& 31)) = 0 ↔ bt x q = false := by
  constructor
  · intro h
    have a : bt (x &&& (nI 1 <<< (nI q &&& 31))) q = bt 0 q := by rw [h]
    rw [b_and, cb_one hq hq, b_0, decide_eq_true rfl, Bool.and_true] at a
    exact a
  · intro h
    refine b_ext fun j hj => ?_
    rw [b_and, cb_one hq hj, b_0]
    by_cases e : j = q
    · rw [e, h]; rfl
    · rw [decide_eq_false e, Bool.and_false]
def cb_ab (k : Nat) : Int32 := (nI 1 <<< (nI k &&& 31)) - nI 1
theorem cb_ab_b : ∀ k, k < 25 → ∀ j, j < 32 → bt (cb_ab k) j = decide (j < k) := by decide +kernel
theorem cb_tst1 {x : Int32} : x &&& nI 1 = nI 1 ↔ bt x 0 = true := by
  constructor
  · intro h
    have a : bt (x &&& nI 1) 0 = bt (nI 1) 0 := by rw [h]
    rw [b_and, cb_1 0 (by decide), decide_eq_true rfl, Bool.and_true] at a
    exact a
  · intro h
    refine b_ext fun j hj => ?_
    rw [b_and, cb_1 j hj]
    by_cases e : j = 0
    · rw [e, h]; rfl
    · rw [decide_eq_false e, Bool.and_false]
theorem cb_shr {x : Int32} {q : Nat} (hq : q < 32) : (x >>> (nI q &&& 31)) &&& nI 1 = nI 1 ↔ bt x q = true := by
  rw [cb_tst1, b_sshr q hq x (by decide), if_pos (by omega), Nat.add_zero]
end
section
/-! raw numbers of the script: terms, arguments, shapes -/
abbrev cx_T (n : Nat) (x : Int32) : Prop := 0 ≤ x ∧ x < nI n
abbrev cx_sh (n : Nat) (sy a b : Int32) : Prop := (0 ≤ sy ∧ sy < nI 16) ∧ ((a = -1 ∧ b = -1) ∨ (cx_T n a ∧ (b = -1 ∨ cx_T n b)))
def cx_n (x : Int32) : Nat := x.toNatClampNeg
/-- the code of an argument -/
def cx_c (x : Int32) : Nat := if x = -1 then 0 else cx_n x + 1
theorem cx_n_n {x : Nat} (h : x < 2 ^ 31) : cx_n (nI x) = x := nI_clamp h
theorem cx_c_a {x : Nat} (h : x ≤ 2 ^ 31) : cx_c (aI x) = x := by
  unfold cx_c
  by_cases e : x = 0
  · subst e; rfl
  · rw [if_neg (fun q => e ((aI_0 h).mp q)), aI_p e, cx_n_n (by omega)]
    omega
theorem cx_T_x {n : Nat} {x : Int32} (hn : n ≤ 40) (h : cx_T n x) : ∃ y, y < n ∧ x = nI y := by
  have h2 : x = nI (cx_n x) := by
    apply Int32.toInt_inj.mp
    have a : (0 : Int) ≤ x.toInt := Int32.le_iff_toInt_le.mp h.1
    have b : x.toInt < (nI n).toInt := Int32.lt_iff_toInt_lt.mp h.2
    rw [nI_toInt (by omega)] at b
    unfold cx_n
    have e : (x.toNatClampNeg : Int) = x.toInt := by
      rw [Int32.toNatClampNeg]
      omega
    rw [nI_toInt (by omega)]
    exact e.symm
  have h3 : cx_n x < n := by
    have b : x.toInt < (nI n).toInt := Int32.lt_iff_toInt_lt.mp h.2
    have a : (0 : Int) ≤ x.toInt := Int32.le_iff_toInt_le.mp h.1
    rw [nI_toInt (by omega)] at b
    unfold cx_n
    rw [Int32.toNatClampNeg]
    omega
  exact ⟨cx_n x, h3, h2⟩
theorem cx_T_n {n y : Nat} (hn : n ≤ 40) (h : y < n) : cx_T n (nI y) := ⟨nI_pos' (by omega), (nI_ltI (by omega) (by omega)).mpr h⟩
theorem cx_A_x {n : Nat} {x : Int32} (hn : n ≤ 40) (h : x = -1 ∨ cx_T n x) : ∃ y, y ≤ n ∧ x = aI y := by
  rcases h with h | h
  · exact ⟨0, Nat.zero_le _, h⟩
  · obtain ⟨y, h1, h2⟩ := cx_T_x hn h
    exact ⟨y + 1, h1, h2⟩
theorem cx_Ty {n : Nat} {x : Int32} (b0 : ¬ x < 0) (b1 : ¬ nI n ≤ x) : cx_T n x := ⟨Int32.not_lt.mp b0, Int32.not_le.mp b1⟩
theorem cx_Tn1 {n : Nat} {x : Int32} (b0 : x < 0) : ¬ cx_T n x := fun h => absurd b0 (Int32.not_lt.mpr h.1)
theorem cx_Tn2 {n : Nat} {x : Int32} (b0 : nI n ≤ x) : ¬ cx_T n x := fun h => absurd h.2 (Int32.not_lt.mpr b0)
theorem cx_sh1 {n : Nat} {sy a b : Int32} (b0 : sy < 0) : ¬ cx_sh n sy a b := fun h => absurd b0 (Int32.not_lt.mpr h.1.1)
theorem cx_sh2 {n : Nat} {sy a b : Int32} (b1 : ¬ sy < nI 16) : ¬ cx_sh n sy a b := fun h => b1 h.1.2
theorem cx_sh3 {n : Nat} {sy a b : Int32} (b0 : ¬ sy < 0) (b1 : sy < nI 16) (b2 : a = -1) (b3 : b = -1) : cx_sh n sy a b := ⟨⟨Int32.not_lt.mp b0, b1⟩, Or.inl ⟨b2, b3⟩⟩
theorem cx_m1_T {n : Nat} : ¬ cx_T n (-1) := fun h => absurd h.1 (by decide)
theorem cx_sh4 {n : Nat} {sy a b : Int32} (b2 : a = -1) (b3 : ¬ b = -1) : ¬ cx_sh n sy a b := fun h => h.2.elim (fun z => b3 z.2) (fun z => cx_m1_T (b2 ▸ z.1))
theorem cx_sh5 {n : Nat} {sy a b : Int32} (b0 : ¬ sy < 0) (b1 : sy < nI 16) (b4 : cx_T n a) (b5 : b = -1 ∨ cx_T n b) : cx_sh n sy a b := ⟨⟨Int32.not_lt.mp b0, b1⟩, Or.inr ⟨b4, b5⟩⟩
theorem cx_sh6 {n : Nat} {sy a b : Int32} (b2 : ¬ a = -1) (b4 : ¬ cx_T n a) : ¬ cx_sh n sy a b := fun h => h.2.elim (fun z => b2 z.1) (fun z => b4 z.1)
theorem cx_sh7 {n : Nat} {sy a b : Int32} (b2 : ¬ a = -1) (b5 : ¬ b = -1) (b6 : ¬ cx_T n b) : ¬ cx_sh n sy a b := fun h => h.2.elim (fun z => b2 z.1) (fun z => z.2.elim b5 b6)
/-- a shape's arguments, coded -/
theorem cx_sh_a {n : Nat} {sy a b : Int32} (h : cx_sh n sy a b) : (a = -1 ∨ cx_T n a) ∧ (b = -1 ∨ cx_T n b) := h.2.elim (fun z => ⟨Or.inl z.1, Or.inl z.2⟩) (fun z => ⟨Or.inr z.1, z.2⟩)
theorem cx_nof {p q r : Prop} {_ : Decidable p} {_ : Decidable q} {_ : Decidable r} (h1 : p) (h2 : q) (h3 : r) : (decide p && (decide q && decide r)) = true := by rw [decide_eq_true h1, decide_eq_true h2, decide_eq_true h3]; rfl
theorem cx_nof1 {p : Prop} {b : Bool} {_ : Decidable p} (h : ¬ p) : (decide p && b) = false := by rw [decide_eq_false h]; rfl
theorem cx_nof2 {p : Prop} {a b : Bool} {_ : Decidable p} (h : ¬ p) : (a && (decide p && b)) = false := by rw [decide_eq_false h, Bool.false_and, Bool.and_false]
theorem cx_nof3 {p : Prop} {a b : Bool} {_ : Decidable p} (h : ¬ p) : (a && (b && decide p)) = false := by rw [decide_eq_false h, Bool.and_false, Bool.and_false]
theorem cx_ars {f : Nat → Nat} {x y : Nat} : bI (decide (f x = f y)) = bI (decide (cg_ar f (x + 1) = cg_ar f (y + 1))) := by
  by_cases h : f x = f y
  · rw [decide_eq_true h, decide_eq_true (cg_ar_s.mpr h)]
  · rw [decide_eq_false h, decide_eq_false (fun z => h (cg_ar_s.mp z))]
end
section
/-! the answers, as functions of the abstract state; f: labels -/
abbrev cg_LA (S : Nat → Int32) (F E : Nat → Nat) (n : Nat) (lf rt : Nat → Nat) (k : Nat) : Nat → Nat := cg_lab (S, F, E) n lf rt (fun _ => true) k
abbrev cg_TS : Type := Nat × (Nat → Int32) × (Nat → Nat) × (Nat → Nat)
abbrev cg_ES : Type := Nat × (Nat → Nat) × (Nat → Nat)
abbrev cg_LS : Type := Nat × (Nat → Nat) × (Nat → Nat) × (Nat → Nat)
def cg_PN (S : Nat → Int32) (F E : Nat → Nat) (sy : Int32) (x y : Nat) : Nat → Bool := fun u => decide (S u = sy) && (decide (F u = x) && decide (E u = y))
def cg_qn (n : Nat) (S : Nat → Int32) (F E : Nat → Nat) (sy a b : Int32) : Nat := cg_sr (cg_PN S F E sy (cx_c a) (cx_c b)) n
def an_make (n : Nat) (S : Nat → Int32) (F E : Nat → Nat) (sy a b : Int32) : Int32 :=
  if cx_sh n sy a b then (if cg_qn n S F E sy a b = 0 then (if n < 40 then nI n else -3) else aI (cg_qn n S F E sy a b)) else -2
def st_make (n : Nat) (S : Nat → Int32) (F E : Nat → Nat) (sy a b : Int32) : cg_TS :=
  if cx_sh n sy a b ∧ cg_qn n S F E sy a b = 0 ∧ n < 40 then (n + 1, upd S n sy, wt_u F n (cx_c a), wt_u E n (cx_c b)) else (n, S, F, E)
def an_equate (n : Nat) (S : Nat → Int32) (F E : Nat → Nat) (k : Nat) (lf rt : Nat → Nat) (x y : Int32) : Int32 :=
  if cx_T n x ∧ cx_T n y then (if k < 24 then nI (cg_cn (cg_LA S F E n lf rt k) n) - nI (cg_cn (cg_LA S F E n (wt_u lf k (cx_n x)) (wt_u rt k (cx_n y)) (k + 1)) n) else -3) else -2
def st_add (mx n k : Nat) (lf rt : Nat → Nat) (x y : Int32) : cg_ES :=
  if (cx_T n x ∧ cx_T n y) ∧ k < mx then (k + 1, wt_u lf k (cx_n x), wt_u rt k (cx_n y)) else (k, lf, rt)
def an_differ (n d : Nat) (x y : Int32) : Int32 := if cx_T n x ∧ cx_T n y then (if d < 16 then nI d else -3) else -2
def an_open (dp : Nat) : Int32 := if dp < 6 then nI (dp + 1) else -3
def st_open (n k d dp : Nat) (ct st dt : Nat → Nat) : cg_LS := if dp < 6 then (dp + 1, wt_u ct dp n, wt_u st dp k, wt_u dt dp d) else (dp, ct, st, dt)
def an_close (dp : Nat) : Int32 := if dp = 0 then -1 else nI (dp - 1)
def st_close (n k d dp : Nat) (ct st dt : Nat → Nat) : Nat × Nat × Nat × Nat := if dp = 0 then (n, k, d, dp) else (ct (dp - 1), st (dp - 1), dt (dp - 1), dp - 1)
def an_equal (n : Nat) (f : Nat → Nat) (x y : Int32) : Int32 := if cx_T n x ∧ cx_T n y then (if f (cx_n x) = f (cx_n y) then 1 else 0) else -2
def cg_PA (f on ot : Nat → Nat) (s t : Nat) : Nat → Bool := fun i => (decide (f (on i) = f s) && decide (f (ot i) = f t)) || (decide (f (on i) = f t) && decide (f (ot i) = f s))
def an_apart (n d : Nat) (f on ot : Nat → Nat) (x y : Int32) : Int32 := if cx_T n x ∧ cx_T n y then (if cg_sr (cg_PA f on ot (cx_n x) (cx_n y)) d = 0 then 0 else 1) else -2
def cg_PC (f on ot : Nat → Nat) : Nat → Bool := fun i => decide (f (on i) = f (ot i))
def an_cons (d : Nat) (f on ot : Nat → Nat) : Bool := decide (cg_fs (cg_PC f on ot) d = d)
def an_leader (n : Nat) (f : Nat → Nat) (x : Int32) : Int32 := if cx_T n x then nI (f (cx_n x)) else -2
def cg_PM (f : Nat → Nat) (t : Nat) : Nat → Bool := fun u => decide (f u = f t)
def an_members (n : Nat) (f : Nat → Nat) (x : Int32) : Int32 := if cx_T n x then nI (cg_ct (cg_PM f (cx_n x)) n) else -2
def cg_PF (S : Nat → Int32) (F E f : Nat → Nat) (sy : Int32) (x y : Nat) : Nat → Bool := fun u => decide (S u = sy ∧ cg_ar f (F u) = cg_ar f x ∧ cg_ar f (E u) = cg_ar f y)
def an_find (n : Nat) (S : Nat → Int32) (F E f : Nat → Nat) (sy a b : Int32) : Int32 :=
  if cx_sh n sy a b then (if cg_fs (cg_PF S F E f sy (cx_c a) (cx_c b)) n < n then nI (f (cg_fs (cg_PF S F E f sy (cx_c a) (cx_c b)) n)) else -1) else -2
/-- whether a choice joins i and j -/
def cg_J (S : Nat → Int32) (F E : Nat → Nat) (n : Nat) (lf rt : Nat → Nat) (k i j : Nat) (C : Nat → Bool) : Bool := decide (cg_lab (S, F, E) n lf rt C k i = cg_lab (S, F, E) n lf rt C k j)
def an_since (n : Nat) (S : Nat → Int32) (F E : Nat → Nat) (k : Nat) (lf rt : Nat → Nat) (x y : Int32) : Int32 :=
  if cx_T n x ∧ cx_T n y then aI (cg_sr (fun q => cg_J S F E n lf rt k (cx_n x) (cx_n y) (fun v => decide (v < q))) (k + 1)) else -2
def an_expl (n : Nat) (S : Nat → Int32) (F E : Nat → Nat) (k : Nat) (lf rt : Nat → Nat) (x y : Int32) : Int32 :=
  if cx_T n x ∧ cx_T n y then (if cg_J S F E n lf rt k (cx_n x) (cx_n y) (fun _ => true) = true then cg_xp (cg_J S F E n lf rt k (cx_n x) (cx_n y)) k 0 else -1) else -2
def cg_nd (J : Nat → Bool) : Nat → Int32
  | 0 => 0
  | i + 1 => if J i = true then cg_nd J i else cg_nd J i ||| (nI 1 <<< (nI i &&& 31))
def an_need (n : Nat) (S : Nat → Int32) (F E : Nat → Nat) (k : Nat) (lf rt : Nat → Nat) (x y : Int32) : Int32 :=
  if cx_T n x ∧ cx_T n y then (if cg_J S F E n lf rt k (cx_n x) (cx_n y) (fun _ => true) = true then cg_nd (fun i => cg_J S F E n lf rt k (cx_n x) (cx_n y) (fun v => !decide (v = i))) k else -1) else -2
def an_weight (n : Nat) (T : cg_T) (f : Nat → Nat) (x : Int32) : Int64 := if cx_T n x then lN (wt_f T f n (f (cx_n x))) else lN 0
def an_best (n : Nat) (T : cg_T) (f : Nat → Nat) (x : Int32) : Int32 := if cx_T n x then nI (wt_b T f n (cx_n x)) else -2
def an_written (n : Nat) (T : cg_T) (f : Nat → Nat) (x z : Int32) : Int32 :=
  if cx_T n x then (if 0 ≤ z ∧ cx_n z < wt_f T f n (f (cx_n x)) then wt_y4 T f n (cx_n x) (cx_n z) else -1) else -2
theorem cg_nd_y {J : Nat → Bool} {i : Nat} {x : Int32} (hx : x = cg_nd J i) (h : J i = true) : x = cg_nd J (i + 1) := by
  show x = if J i = true then cg_nd J i else _
  rw [if_pos h, hx]
theorem cg_nd_n {J : Nat → Bool} {i : Nat} {x : Int32} (hx : x = cg_nd J i) (h : J i = false) : x ||| (nI 1 <<< (nI i &&& 31)) = cg_nd J (i + 1) := by
  show _ = if J i = true then cg_nd J i else _
  rw [if_neg (by rw [h]; decide), hx]
/-! agreement -/
theorem cx_T_2 {n : Nat} {x y : Int32} (hn : n ≤ 40) (h : cx_T n x ∧ cx_T n y) : ∃ i j, (i < n ∧ x = nI i) ∧ (j < n ∧ y = nI j) := by
  obtain ⟨i, hi⟩ := cx_T_x hn h.1
  obtain ⟨j, hj⟩ := cx_T_x hn h.2
  exact ⟨i, j, hi, hj⟩
theorem cx_T_nn {n : Nat} {x : Int32} (hn : n ≤ 40) (h : cx_T n x) : cx_n x < n := by
  obtain ⟨i, h1, h2⟩ := cx_T_x hn h
  rw [h2, cx_n_n (by omega)]
  exact h1
theorem an_equal_ag {n : Nat} {f g : Nat → Nat} {x y : Int32} (hn : n ≤ 40) (h : ∀ u, u < n → f u = g u) : an_equal n f x y = an_equal n g x y := by
  unfold an_equal
  by_cases c : cx_T n x ∧ cx_T n y
  · rw [if_pos c, if_pos c, h _ (cx_T_nn hn c.1), h _ (cx_T_nn hn c.2)]
  · rw [if_neg c, if_neg c]
theorem cg_sr_ag {P P' : Nat → Bool} {n : Nat} (h : ∀ v, v < n → P v = P' v) : cg_sr P n = cg_sr P' n := by
  unfold cg_sr
  rw [cg_fs_ag n h]
theorem an_apart_ag {n d : Nat} {f g on ot : Nat → Nat} {x y : Int32} (hn : n ≤ 40) (hd : cg_we n on ot d) (h : ∀ u, u < n → f u = g u) : an_apart n d f on ot x y = an_apart n d g on ot x y := by
  unfold an_apart
  by_cases c : cx_T n x ∧ cx_T n y
  · rw [if_pos c, if_pos c, cg_sr_ag (P' := cg_PA g on ot (cx_n x) (cx_n y)) (fun v hv => ?_)]
    unfold cg_PA
    rw [h _ (hd v hv).1, h _ (hd v hv).2, h _ (cx_T_nn hn c.1), h _ (cx_T_nn hn c.2)]
  · rw [if_neg c, if_neg c]
theorem an_cons_ag {n d : Nat} {f g on ot : Nat → Nat} (hd : cg_we n on ot d) (h : ∀ u, u < n → f u = g u) : an_cons d f on ot = an_cons d g on ot := by
  unfold an_cons
  rw [cg_fs_ag (P' := cg_PC g on ot) d (fun v hv => ?_)]
  unfold cg_PC
  rw [h _ (hd v hv).1, h _ (hd v hv).2]
theorem an_leader_ag {n : Nat} {f g : Nat → Nat} {x : Int32} (hn : n ≤ 40) (h : ∀ u, u < n → f u = g u) : an_leader n f x = an_leader n g x := by
  unfold an_leader
  by_cases c : cx_T n x
  · rw [if_pos c, if_pos c, h _ (cx_T_nn hn c)]
  · rw [if_neg c, if_neg c]
theorem an_members_ag {n : Nat} {f g : Nat → Nat} {x : Int32} (hn : n ≤ 40) (h : ∀ u, u < n → f u = g u) : an_members n f x = an_members n g x := by
  unfold an_members
  by_cases c : cx_T n x
  · rw [if_pos c, if_pos c, cg_ct_ag (P' := cg_PM g (cx_n x)) n (fun v hv => ?_)]
    unfold cg_PM
    rw [h v hv, h _ (cx_T_nn hn c)]
  · rw [if_neg c, if_neg c]
theorem cx_sh_c {n : Nat} {sy a b : Int32} (hn : n ≤ 40) (h : cx_sh n sy a b) : cx_c a ≤ n ∧ cx_c b ≤ n := by
  obtain ⟨x, h1, h2⟩ := cx_A_x hn (cx_sh_a h).1
  obtain ⟨y, h3, h4⟩ := cx_A_x hn (cx_sh_a h).2
  rw [h2, h4, cx_c_a (by omega), cx_c_a (by omega)]
  exact ⟨h1, h3⟩
theorem an_find_ag {n : Nat} {S : Nat → Int32} {F E f g : Nat → Nat} {sy a b : Int32} (hn : n ≤ 40) (w : cg_wf (S, F, E) n) (h : ∀ u, u < n → f u = g u) : an_find n S F E f sy a b = an_find n S F E g sy a b := by
  unfold an_find
  by_cases c : cx_sh n sy a b
  · have cc := cx_sh_c hn c
    have e : cg_fs (cg_PF S F E f sy (cx_c a) (cx_c b)) n = cg_fs (cg_PF S F E g sy (cx_c a) (cx_c b)) n := by
      refine cg_fs_ag n (fun v hv => ?_)
      have q := w v hv
      simp only at q
      unfold cg_PF
      rw [cg_ar_ag h (x := F v) (by omega), cg_ar_ag h (x := E v) (by omega), cg_ar_ag h (x := cx_c a) cc.1, cg_ar_ag h (x := cx_c b) cc.2]
    rw [if_pos c, if_pos c, e]
    by_cases z : cg_fs (cg_PF S F E g sy (cx_c a) (cx_c b)) n < n
    · rw [if_pos z, if_pos z, h _ z]
    · rw [if_neg z, if_neg z]
  · rw [if_neg c, if_neg c]
theorem an_weight_ag {n : Nat} {T : cg_T} {f g : Nat → Nat} {x : Int32} (hn : n ≤ 40) (w : cg_wf T n) (h : ∀ u, u < n → f u = g u) : an_weight n T f x = an_weight n T g x := by
  unfold an_weight
  by_cases c : cx_T n x
  · rw [if_pos c, if_pos c, h _ (cx_T_nn hn c), wt_f_ag w h]
  · rw [if_neg c, if_neg c]
theorem an_best_ag {n : Nat} {T : cg_T} {f g : Nat → Nat} {x : Int32} (hn : n ≤ 40) (w : cg_wf T n) (h : ∀ u, u < n → f u = g u) : an_best n T f x = an_best n T g x := by
  unfold an_best
  by_cases c : cx_T n x
  · rw [if_pos c, if_pos c, wt_b_ag w h (cx_T_nn hn c)]
  · rw [if_neg c, if_neg c]
theorem wt_g_b {T : cg_T} {L : Nat → Nat} {n t k : Nat} (wf : cg_wf T n) (hL : ∀ t, t < n → L t < n) (hn : n ≤ 40) (ht : t < n) (hk : k < wt_f T L n (L t)) : wt_g T L n (wt_b T L n t, k) := by
  obtain ⟨b1, b2, b3⟩ := wt_b_p (T := T) wf hL hn ht
  exact ⟨b1, by show wt_c T L (wt_f T L n) (wt_b T L n t) = wt_f T L n (L (wt_b T L n t)); rw [b3, b2], by show k < wt_f T L n (L (wt_b T L n t)); rw [b2]; exact hk⟩
theorem wt_n_ag {T : cg_T} {L L' : Nat → Nat} {n : Nat} {q : Nat × Nat} (wf : cg_wf T n) (hL : ∀ t, t < n → L t < n) (hn : n ≤ 40) (h : ∀ t, t < n → L t = L' t) (g : wt_g T L n q) : wt_n T L n q = wt_n T L' n q := by
  have w1 := (wf q.1 g.1).1
  have w2 := (wf q.1 g.1).2
  have hq := g.1
  unfold wt_n
  by_cases z : q.2 = 0
  · rw [if_pos z, if_pos z]
  · obtain ⟨n2, n1, -, -, -⟩ := wt_n_g wf hL hn g z
    rw [if_neg z, if_neg z, ← wt_f_ag wf h, ← wt_a_ag (w := wt_f T L n) h (x := T.2.1 q.1) (by omega)]
    by_cases c : wt_a L (wt_f T L n) (T.2.1 q.1) ≤ q.2 - 1
    · have e := n2 c
      rw [if_pos c, if_pos c, wt_b_ag wf h (t := T.2.2 q.1 - 1) (by omega)]
    · have e := n1 c
      rw [if_neg c, if_neg c, wt_b_ag wf h (t := T.2.1 q.1 - 1) (by omega)]
theorem wt_w_ag {T : cg_T} {L L' : Nat → Nat} {n : Nat} {q : Nat × Nat} (wf : cg_wf T n) (hL : ∀ t, t < n → L t < n) (hn : n ≤ 40) (h : ∀ t, t < n → L t = L' t) (g : wt_g T L n q) : ∀ k, wt_w T L n q k = wt_w T L' n q k := by
  intro k
  induction k with
  | zero => rfl
  | succ k ih =>
    show wt_n T L n (wt_w T L n q k) = wt_n T L' n (wt_w T L' n q k)
    rw [← ih]
    exact wt_n_ag wf hL hn h (wt_w_g wf hL hn g k).1
theorem an_written_ag {n : Nat} {T : cg_T} {f g : Nat → Nat} {x z : Int32} (hn : n ≤ 40) (w : cg_wf T n) (hL : ∀ u, u < n → f u < n) (h : ∀ u, u < n → f u = g u) : an_written n T f x z = an_written n T g x z := by
  unfold an_written
  by_cases c : cx_T n x
  · have ct := cx_T_nn hn c
    rw [if_pos c, if_pos c, ← h _ ct, ← wt_f_ag w h]
    by_cases q : 0 ≤ z ∧ cx_n z < wt_f T f n (f (cx_n x))
    · rw [if_pos q, if_pos q]
      unfold wt_y4
      rw [← wt_b_ag w h ct, wt_w_ag w hL hn h (wt_g_b w hL hn ct q.2)]
    · rw [if_neg q, if_neg q]
  · rw [if_neg c, if_neg c]
/-- the labels of every choice that has all equations below k -/
theorem cg_all {T : cg_T} {n k : Nat} {lf rt : Nat → Nat} (hk : k ≤ 24) : cg_lab T n lf rt (bt (cb_ab k)) k = cg_lab T n lf rt (fun _ => true) k := cg_lab_ex (fun i hi => by rw [cb_ab_b k (by omega) i (by omega)]; exact decide_eq_true hi)
theorem cg_fs_s {P : Nat → Bool} {v : Nat} : decide (cg_fs P (v + 1) = v + 1) = (decide (cg_fs P v = v) && !P v) := by
  have hle := cg_fs_le P v
  show decide ((if cg_fs P v < v then cg_fs P v else if P v = true then v else v + 1) = v + 1) = _
  by_cases c : cg_fs P v < v
  · rw [if_pos c, decide_eq_false (by omega), decide_eq_false (by omega : ¬ cg_fs P v = v)]; rfl
  · rw [if_neg c, decide_eq_true (by omega : cg_fs P v = v)]
    cases hp : P v with
    | true => rw [if_pos rfl, decide_eq_false (by omega)]; rfl
    | false => rw [if_neg (by decide), decide_eq_true rfl]; rfl
end
section
/-! how each answer comes out -/
theorem cx_T2 {n i j : Nat} (hn : n ≤ 40) (hi : i < n) (hj : j < n) : cx_T n (nI i) ∧ cx_T n (nI j) := ⟨cx_T_n hn hi, cx_T_n hn hj⟩
theorem cx_nn {n i : Nat} (hn : n ≤ 40) (hi : i < n) : cx_n (nI i) = i := cx_n_n (by omega)
theorem cg_sr_le (P : Nat → Bool) (n : Nat) : cg_sr P n ≤ n := by
  unfold cg_sr
  split <;> omega
theorem an_equal_b {n : Nat} {f : Nat → Nat} {x y : Int32} (h : ¬ (cx_T n x ∧ cx_T n y)) : -2 = an_equal n f x y := (if_neg h).symm
theorem an_equal_y {n i j : Nat} {f : Nat → Nat} (hn : n ≤ 40) (hi : i < n) (hj : j < n) (h : f i = f j) : nI 1 = an_equal n f (nI i) (nI j) := by
  unfold an_equal
  rw [if_pos (cx_T2 hn hi hj), cx_nn hn hi, cx_nn hn hj, if_pos h]; rfl
theorem an_equal_n {n i j : Nat} {f : Nat → Nat} (hn : n ≤ 40) (hi : i < n) (hj : j < n) (h : ¬ f i = f j) : nI 0 = an_equal n f (nI i) (nI j) := by
  unfold an_equal
  rw [if_pos (cx_T2 hn hi hj), cx_nn hn hi, cx_nn hn hj, if_neg h]; rfl
theorem cg_PA_f {f on ot : Nat → Nat} {i j v : Nat} (h1 : ¬ (f (on v) = f i ∧ f (ot v) = f j)) (h2 : ¬ (f (on v) = f j ∧ f (ot v) = f i)) : cg_PA f on ot i j v = false := by
  unfold cg_PA
  rw [Bool.or_eq_false_iff, Bool.and_eq_false_iff, Bool.and_eq_false_iff]
  simp only [decide_eq_false_iff_not]
  exact ⟨Decidable.not_and_iff_or_not.mp h1, Decidable.not_and_iff_or_not.mp h2⟩
theorem cg_PA_t {f on ot : Nat → Nat} {i j v : Nat} (h : (f (on v) = f i ∧ f (ot v) = f j) ∨ (f (on v) = f j ∧ f (ot v) = f i)) : cg_PA f on ot i j v = true := by
  unfold cg_PA
  rw [Bool.or_eq_true, Bool.and_eq_true, Bool.and_eq_true]
  simp only [decide_eq_true_eq]
  exact h
theorem an_apart_b {n d : Nat} {f on ot : Nat → Nat} {x y : Int32} (h : ¬ (cx_T n x ∧ cx_T n y)) : -2 = an_apart n d f on ot x y := (if_neg h).symm
theorem an_apart_y {n d i j v : Nat} {f on ot : Nat → Nat} (hn : n ≤ 40) (hi : i < n) (hj : j < n) (hno : ∀ u, u < v → cg_PA f on ot i j u = false) (h : cg_PA f on ot i j v = true) (hv : v < d) : nI 1 = an_apart n d f on ot (nI i) (nI j) := by
  unfold an_apart
  rw [if_pos (cx_T2 hn hi hj), cx_nn hn hi, cx_nn hn hj, ← cg_sr_y hno h hv, if_neg (by omega)]; rfl
theorem an_apart_n {n d i j v : Nat} {f on ot : Nat → Nat} (hn : n ≤ 40) (hi : i < n) (hj : j < n) (hno : ∀ u, u < v → cg_PA f on ot i j u = false) (hv : d ≤ v) : nI 0 = an_apart n d f on ot (nI i) (nI j) := by
  unfold an_apart
  rw [if_pos (cx_T2 hn hi hj), cx_nn hn hi, cx_nn hn hj, ← cg_sr_n hno hv, if_pos rfl]; rfl
theorem an_cons_n {d v : Nat} {f on ot : Nat → Nat} (hno : ∀ u, u < v → cg_PC f on ot u = false) (h : cg_PC f on ot v = true) (hv : v < d) : nI 0 = bI (an_cons d f on ot) := by
  unfold an_cons
  rw [cg_fs_at h hno d hv, decide_eq_false (by omega)]; rfl
theorem an_cons_y {d v : Nat} {f on ot : Nat → Nat} (hno : ∀ u, u < v → cg_PC f on ot u = false) (hv : d ≤ v) : nI 1 = bI (an_cons d f on ot) := by
  unfold an_cons
  rw [cg_fs_no d (fun u hu => hno u (by omega)), decide_eq_true rfl]; rfl
theorem an_leader_b {n : Nat} {f : Nat → Nat} {x : Int32} (h : ¬ cx_T n x) : -2 = an_leader n f x := (if_neg h).symm
theorem an_leader_y {n i : Nat} {f : Nat → Nat} (hn : n ≤ 40) (hi : i < n) : nI (f i) = an_leader n f (nI i) := by
  unfold an_leader
  rw [if_pos (cx_T_n hn hi), cx_nn hn hi]
theorem an_members_b {n : Nat} {f : Nat → Nat} {x : Int32} (h : ¬ cx_T n x) : -2 = an_members n f x := (if_neg h).symm
theorem an_members_y {n i c v : Nat} {f : Nat → Nat} (hn : n ≤ 40) (hi : i < n) (hc : c = cg_ct (cg_PM f i) v) (hv : v = n) : nI c = an_members n f (nI i) := by
  unfold an_members
  rw [if_pos (cx_T_n hn hi), cx_nn hn hi, hc, hv]
theorem an_find_b {n : Nat} {S : Nat → Int32} {F E f : Nat → Nat} {sy a b : Int32} (h : ¬ cx_sh n sy a b) : -2 = an_find n S F E f sy a b := (if_neg h).symm
theorem cx_cc {n x : Nat} (hn : n ≤ 40) (hx : x ≤ n) : cx_c (aI x) = x := cx_c_a (by omega)
theorem an_find_y {n x y v : Nat} {S : Nat → Int32} {F E f : Nat → Nat} {sy : Int32} (hn : n ≤ 40) (h : cx_sh n sy (aI x) (aI y)) (hx : x ≤ n) (hy : y ≤ n) (hno : ∀ u, u < v → cg_PF S F E f sy x y u = false) (hp : cg_PF S F E f sy x y v = true) (hv : v < n) : nI (f v) = an_find n S F E f sy (aI x) (aI y) := by
  unfold an_find
  rw [if_pos h, cx_cc hn hx, cx_cc hn hy, cg_fs_at hp hno n hv, if_pos hv]
theorem an_find_n {n x y v : Nat} {S : Nat → Int32} {F E f : Nat → Nat} {sy : Int32} (hn : n ≤ 40) (h : cx_sh n sy (aI x) (aI y)) (hx : x ≤ n) (hy : y ≤ n) (hno : ∀ u, u < v → cg_PF S F E f sy x y u = false) (hv : n ≤ v) : -1 = an_find n S F E f sy (aI x) (aI y) := by
  unfold an_find
  rw [if_pos h, cx_cc hn hx, cx_cc hn hy, cg_fs_no n (fun u hu => hno u (by omega)), if_neg (Nat.lt_irrefl n)]
theorem cg_qn_c {n x y : Nat} {S : Nat → Int32} {F E : Nat → Nat} {sy : Int32} (hn : n ≤ 40) (hx : x ≤ n) (hy : y ≤ n) : cg_qn n S F E sy (aI x) (aI y) = cg_sr (cg_PN S F E sy x y) n := by
  unfold cg_qn
  rw [cx_cc hn hx, cx_cc hn hy]
section MK
variable {n x y : Nat} {S : Nat → Int32} {F E : Nat → Nat} {sy a b : Int32}
theorem an_make_1 (h : ¬ cx_sh n sy a b) : -2 = an_make n S F E sy a b := (if_neg h).symm
theorem st_make_1 (h : ¬ cx_sh n sy a b) : (n, S, F, E) = st_make n S F E sy a b := (if_neg (fun z => h z.1)).symm
theorem an_make_2 (hn : n ≤ 40) (h : cx_sh n sy (aI x) (aI y)) (hx : x ≤ n) (hy : y ≤ n) (hq : ¬ cg_sr (cg_PN S F E sy x y) n = 0) : aI (cg_sr (cg_PN S F E sy x y) n) = an_make n S F E sy (aI x) (aI y) := by
  unfold an_make
  rw [if_pos h, cg_qn_c hn hx hy, if_neg hq]
theorem st_make_2 (hn : n ≤ 40) (hx : x ≤ n) (hy : y ≤ n) (hq : ¬ cg_sr (cg_PN S F E sy x y) n = 0) : (n, S, F, E) = st_make n S F E sy (aI x) (aI y) := by
  unfold st_make
  rw [if_neg (fun z => hq (by rw [← cg_qn_c hn hx hy]; exact z.2.1))]
theorem an_make_3 (hn : n ≤ 40) (h : cx_sh n sy (aI x) (aI y)) (hx : x ≤ n) (hy : y ≤ n) (hq : cg_sr (cg_PN S F E sy x y) n = 0) (hf : 40 ≤ n) : -3 = an_make n S F E sy (aI x) (aI y) := by
  unfold an_make
  rw [if_pos h, cg_qn_c hn hx hy, if_pos hq, if_neg (by omega)]
theorem st_make_3 (hf : 40 ≤ n) : (n, S, F, E) = st_make n S F E sy a b := (if_neg (fun z => absurd z.2.2 (by omega))).symm
theorem an_make_4 (hn : n ≤ 40) (h : cx_sh n sy (aI x) (aI y)) (hx : x ≤ n) (hy : y ≤ n) (hq : cg_sr (cg_PN S F E sy x y) n = 0) (hf : n < 40) : nI n = an_make n S F E sy (aI x) (aI y) := by
  unfold an_make
  rw [if_pos h, cg_qn_c hn hx hy, if_pos hq, if_pos hf]
theorem st_make_4 (hn : n ≤ 40) (h : cx_sh n sy (aI x) (aI y)) (hx : x ≤ n) (hy : y ≤ n) (hq : cg_sr (cg_PN S F E sy x y) n = 0) (hf : n < 40) : (n + 1, upd S n sy, wt_u F n x, wt_u E n y) = st_make n S F E sy (aI x) (aI y) := by
  unfold st_make
  rw [if_pos ⟨h, by rw [cg_qn_c hn hx hy]; exact hq, hf⟩, cx_cc hn hx, cx_cc hn hy]
theorem cg_wf_add (w : cg_wf (S, F, E) n) (hx : x ≤ n) (hy : y ≤ n) : cg_wf (upd S n sy, wt_u F n x, wt_u E n y) (n + 1) := by
  intro t ht
  show wt_u F n x t ≤ t ∧ wt_u E n y t ≤ t
  by_cases e : t = n
  · subst e
    rw [wt_u_at, wt_u_at]
    exact ⟨hx, hy⟩
  · rw [wt_u_ne e, wt_u_ne e]
    exact w t (by omega)
end MK
theorem cg_we_up {n k : Nat} {lf rt : Nat → Nat} (w : cg_we n lf rt k) : cg_we (n + 1) lf rt k := fun i hi => ⟨Nat.lt_succ_of_lt (w i hi).1, Nat.lt_succ_of_lt (w i hi).2⟩
theorem cg_we_add {n k i j : Nat} {lf rt : Nat → Nat} (w : cg_we n lf rt k) (hi : i < n) (hj : j < n) : cg_we n (wt_u lf k i) (wt_u rt k j) (k + 1) := by
  intro t ht
  by_cases e : t = k
  · subst e
    rw [wt_u_at, wt_u_at]
    exact ⟨hi, hj⟩
  · rw [wt_u_ne e, wt_u_ne e]
    exact w t (by omega)
section EQ
variable {n k i j mx d : Nat} {S : Nat → Int32} {F E lf rt f g : Nat → Nat} {x y : Int32}
theorem an_equate_1 (h : ¬ (cx_T n x ∧ cx_T n y)) : -2 = an_equate n S F E k lf rt x y := (if_neg h).symm
theorem an_equate_2 (hn : n ≤ 40) (hi : i < n) (hj : j < n) (h : 24 ≤ k) : -3 = an_equate n S F E k lf rt (nI i) (nI j) := by
  unfold an_equate
  rw [if_pos (cx_T2 hn hi hj), if_neg (by omega)]
theorem an_equate_3 (hn : n ≤ 40) (hi : i < n) (hj : j < n) (h : ¬ 24 ≤ k) (hf : ∀ z, z < n → f z = cg_LA S F E n lf rt k z) (hg : ∀ z, z < n → g z = cg_LA S F E n (wt_u lf k i) (wt_u rt k j) (k + 1) z) : nI (cg_cn f n) - nI (cg_cn g n) = an_equate n S F E k lf rt (nI i) (nI j) := by
  unfold an_equate
  rw [if_pos (cx_T2 hn hi hj), if_pos (by omega), cx_nn hn hi, cx_nn hn hj, cg_cn_ag n hf, cg_cn_ag n hg]
theorem st_add_1 (h : ¬ (cx_T n x ∧ cx_T n y)) : (k, lf, rt) = st_add mx n k lf rt x y := (if_neg (fun z => h z.1)).symm
theorem st_add_2 (h : mx ≤ k) : (k, lf, rt) = st_add mx n k lf rt x y := (if_neg (fun z => absurd z.2 (by omega))).symm
theorem st_add_3 (hn : n ≤ 40) (hi : i < n) (hj : j < n) (h : ¬ mx ≤ k) : (k + 1, wt_u lf k i, wt_u rt k j) = st_add mx n k lf rt (nI i) (nI j) := by
  unfold st_add
  rw [if_pos ⟨cx_T2 hn hi hj, by omega⟩, cx_nn hn hi, cx_nn hn hj]
theorem an_differ_1 (h : ¬ (cx_T n x ∧ cx_T n y)) : -2 = an_differ n d x y := (if_neg h).symm
theorem an_differ_2 (hn : n ≤ 40) (hi : i < n) (hj : j < n) (h : 16 ≤ d) : -3 = an_differ n d (nI i) (nI j) := by
  unfold an_differ
  rw [if_pos (cx_T2 hn hi hj), if_neg (by omega)]
theorem an_differ_3 (hn : n ≤ 40) (hi : i < n) (hj : j < n) (h : ¬ 16 ≤ d) : nI d = an_differ n d (nI i) (nI j) := by
  unfold an_differ
  rw [if_pos (cx_T2 hn hi hj), if_pos (by omega)]
end EQ
section LV
variable {n k d dp : Nat} {ct st dt F E lf rt on ot : Nat → Nat} {S : Nat → Int32}
theorem an_open_1 (h : 6 ≤ dp) : -3 = an_open dp := (if_neg (by omega)).symm
theorem st_open_1 (h : 6 ≤ dp) : (dp, ct, st, dt) = st_open n k d dp ct st dt := (if_neg (by omega)).symm
theorem an_open_2 (h : dp < 6) : nI (dp + 1) = an_open dp := (if_pos h).symm
theorem st_open_2 (h : dp < 6) : (dp + 1, wt_u ct dp n, wt_u st dp k, wt_u dt dp d) = st_open n k d dp ct st dt := (if_pos h).symm
theorem an_close_1 (h : dp = 0) : -1 = an_close dp := (if_pos h).symm
theorem st_close_1 (h : dp = 0) : (n, k, d, dp) = st_close n k d dp ct st dt := (if_pos h).symm
theorem an_close_2 (h : 0 < dp) : nI (dp - 1) = an_close dp := (if_neg (by omega)).symm
theorem st_close_2 (h : 0 < dp) : (ct (dp - 1), st (dp - 1), dt (dp - 1), dp - 1) = st_close n k d dp ct st dt := (if_neg (by omega)).symm
theorem cg_WF_dp (w : cg_WF n F E k lf rt d on ot dp ct st dt) : dp ≤ 6 := w.2.2.2.2.2.1
theorem cg_WF_n (w : cg_WF n F E k lf rt d on ot dp ct st dt) : n ≤ 40 := w.1.1
theorem cg_WF_l (w : cg_WF n F E k lf rt d on ot dp ct st dt) (h : 0 < dp) : ct (dp - 1) ≤ 40 ∧ ct (dp - 1) ≤ n ∧ st (dp - 1) ≤ 24 ∧ cg_we (ct (dp - 1)) lf rt (st (dp - 1)) := by
  obtain ⟨⟨h1, -⟩, h2, -, -, -, -, h7, -⟩ := w
  obtain ⟨a, b, -, c, -⟩ := h7 (dp - 1) (by omega)
  exact ⟨by omega, a, by omega, c⟩
theorem cg_WF_w (w : cg_WF n F E k lf rt d on ot dp ct st dt) {m : Nat} (h : m ≤ n) : cg_wf (S, F, E) m := fun t ht => w.1.2 t (by omega)
end LV
end
section
/-! choices: all below, all but one, and those kept -/
theorem cx_sub1 {x : Nat} : nI x - nI 1 = aI x := by
  cases x with
  | zero => decide
  | succ k => exact pk_sub (by omega)
section CH
variable {S : Nat → Int32} {F E lf rt : Nat → Nat} {n k i j : Nat}
theorem cg_J_ex {C D : Nat → Bool} (h : ∀ v, v < k → C v = D v) : cg_J S F E n lf rt k i j C = cg_J S F E n lf rt k i j D := by
  unfold cg_J
  rw [cg_lab_ex h]
theorem cg_J_ab {v : Nat} (hv : v ≤ 24) (hk : k ≤ 24) : cg_J S F E n lf rt k i j (bt (cb_ab v)) = cg_J S F E n lf rt k i j (fun u => decide (u < v)) := cg_J_ex (fun u hu => cb_ab_b v (by omega) u (by omega))
theorem cg_J_or {x : Int32} {v : Nat} (hv : v ≤ 24) (hk : k ≤ 24) : cg_J S F E n lf rt k i j (bt (x ||| cb_ab v)) = cg_J S F E n lf rt k i j (cg_bw x v) := cg_J_ex (fun u hu => by rw [b_or, cb_ab_b v (by omega) u (by omega)]; rfl)
theorem cg_J_nt {v : Nat} (hv : v < k) (hk : k ≤ 24) : cg_J S F E n lf rt k i j (bt (cb_ab k &&& ((nI 1 <<< (nI v &&& 31)) ^^^ (-1)))) = cg_J S F E n lf rt k i j (fun u => !decide (u = v)) := cg_J_ex (fun u hu => by
  rw [b_and, b_xor, cb_ab_b k (by omega) u (by omega), cb_one (by omega) (by omega), b_m1 u (by omega), decide_eq_true hu, Bool.true_and, Bool.xor_true])
theorem cg_J_all {f : Nat → Nat} (hf : ∀ z, z < n → f z = cg_LA S F E n lf rt k z) (hi : i < n) (hj : j < n) : decide (f i = f j) = cg_J S F E n lf rt k i j (fun _ => true) := by
  rw [hf i hi, hf j hj]; rfl
theorem cg_xp_1 {J : (Nat → Bool) → Bool} {x z : Int32} {q : Nat} (h : cg_xp J (q + 1) x = z) (hj : J (cg_bw x q) = true) : cg_xp J q x = z := by
  rw [← h]
  exact (if_pos hj).symm
theorem cg_xp_0 {J : (Nat → Bool) → Bool} {x z : Int32} {q : Nat} (h : cg_xp J (q + 1) x = z) (hj : J (cg_bw x q) = false) : cg_xp J q (x ||| (nI 1 <<< (nI q &&& 31))) = z := by
  rw [← h]
  exact (if_neg (by rw [hj]; decide)).symm
theorem an_since_b {x y : Int32} (h : ¬ (cx_T n x ∧ cx_T n y)) : -2 = an_since n S F E k lf rt x y := (if_neg h).symm
theorem an_since_y {v : Nat} (hn : n ≤ 40) (hi : i < n) (hj : j < n) (hno : ∀ u, u < v → cg_J S F E n lf rt k i j (fun z => decide (z < u)) = false) (h : cg_J S F E n lf rt k i j (fun z => decide (z < v)) = true) (hv : v ≤ k) : nI v = an_since n S F E k lf rt (nI i) (nI j) := by
  unfold an_since
  rw [if_pos (cx_T2 hn hi hj), cx_nn hn hi, cx_nn hn hj]
  exact congrArg aI (cg_sr_y (P := fun q => cg_J S F E n lf rt k i j (fun z => decide (z < q))) hno h (by omega))
theorem an_since_n {v : Nat} (hn : n ≤ 40) (hi : i < n) (hj : j < n) (hno : ∀ u, u < v → cg_J S F E n lf rt k i j (fun z => decide (z < u)) = false) (hv : k < v) : -1 = an_since n S F E k lf rt (nI i) (nI j) := by
  unfold an_since
  rw [if_pos (cx_T2 hn hi hj), cx_nn hn hi, cx_nn hn hj]
  exact congrArg aI (cg_sr_n (P := fun q => cg_J S F E n lf rt k i j (fun z => decide (z < q))) hno (by omega))
theorem cg_sn_s {v : Nat} (hno : ∀ u, u < v → cg_J S F E n lf rt k i j (fun z => decide (z < u)) = false) (h : cg_J S F E n lf rt k i j (fun z => decide (z < v)) = false) : ∀ u, u < v + 1 → cg_J S F E n lf rt k i j (fun z => decide (z < u)) = false := cg_sr_s (P := fun q => cg_J S F E n lf rt k i j (fun z => decide (z < q))) hno h
theorem an_expl_b {x y : Int32} (h : ¬ (cx_T n x ∧ cx_T n y)) : -2 = an_expl n S F E k lf rt x y := (if_neg h).symm
theorem an_expl_n (hn : n ≤ 40) (hi : i < n) (hj : j < n) (h : cg_J S F E n lf rt k i j (fun _ => true) = false) : -1 = an_expl n S F E k lf rt (nI i) (nI j) := by
  unfold an_expl
  rw [if_pos (cx_T2 hn hi hj), cx_nn hn hi, cx_nn hn hj, if_neg (by rw [h]; decide)]
theorem an_expl_y (hn : n ≤ 40) (hi : i < n) (hj : j < n) (h : cg_J S F E n lf rt k i j (fun _ => true) = true) {x : Int32} (hx : x = cg_xp (cg_J S F E n lf rt k i j) k 0) : x = an_expl n S F E k lf rt (nI i) (nI j) := by
  unfold an_expl
  rw [if_pos (cx_T2 hn hi hj), cx_nn hn hi, cx_nn hn hj, if_pos h]
  exact hx
theorem an_need_b {x y : Int32} (h : ¬ (cx_T n x ∧ cx_T n y)) : -2 = an_need n S F E k lf rt x y := (if_neg h).symm
theorem an_need_n (hn : n ≤ 40) (hi : i < n) (hj : j < n) (h : cg_J S F E n lf rt k i j (fun _ => true) = false) : -1 = an_need n S F E k lf rt (nI i) (nI j) := by
  unfold an_need
  rw [if_pos (cx_T2 hn hi hj), cx_nn hn hi, cx_nn hn hj, if_neg (by rw [h]; decide)]
theorem an_need_y {v : Nat} (hn : n ≤ 40) (hi : i < n) (hj : j < n) (h : cg_J S F E n lf rt k i j (fun _ => true) = true) {x : Int32} (hx : x = cg_nd (fun z => cg_J S F E n lf rt k i j (fun u => !decide (u = z))) v) (hv : v = k) : x = an_need n S F E k lf rt (nI i) (nI j) := by
  unfold an_need
  rw [if_pos (cx_T2 hn hi hj), cx_nn hn hi, cx_nn hn hj, if_pos h, hx, hv]
end CH
section WA
variable {T : cg_T} {f : Nat → Nat} {n i : Nat}
theorem an_weight_b {x : Int32} (h : ¬ cx_T n x) : lN 0 = an_weight n T f x := (if_neg h).symm
theorem an_weight_y (hn : n ≤ 40) (hi : i < n) : lN (wt_f T f n (f i)) = an_weight n T f (nI i) := by
  unfold an_weight
  rw [if_pos (cx_T_n hn hi), cx_nn hn hi]
theorem an_best_b {x : Int32} (h : ¬ cx_T n x) : -2 = an_best n T f x := (if_neg h).symm
theorem an_best_y (hn : n ≤ 40) (hi : i < n) : nI (wt_b T f n i) = an_best n T f (nI i) := by
  unfold an_best
  rw [if_pos (cx_T_n hn hi), cx_nn hn hi]
theorem an_written_b {x z : Int32} (h : ¬ cx_T n x) : -2 = an_written n T f x z := (if_neg h).symm
theorem an_written_m (hn : n ≤ 40) (hi : i < n) {z : Int32} (h : z < 0) : -1 = an_written n T f (nI i) z := by
  unfold an_written
  rw [if_pos (cx_T_n hn hi), if_neg (fun q => absurd h (Int32.not_lt.mpr q.1))]
theorem an_written_n (hn : n ≤ 40) (hi : i < n) {z : Nat} (hz : z < 2 ^ 31) (h : wt_f T f n (f i) ≤ z) : -1 = an_written n T f (nI i) (nI z) := by
  unfold an_written
  rw [if_pos (cx_T_n hn hi), cx_nn hn hi, cx_n_n hz, if_neg (fun q => absurd q.2 (by omega))]
theorem an_written_y (hn : n ≤ 40) (hi : i < n) {z : Nat} (hz : z < 2 ^ 31) (h : z < wt_f T f n (f i)) : wt_y4 T f n i z = an_written n T f (nI i) (nI z) := by
  unfold an_written
  rw [if_pos (cx_T_n hn hi), cx_nn hn hi, cx_n_n hz, if_pos ⟨nI_pos' hz, h⟩]
theorem cx_pos_x {z : Int32} (h : ¬ z < 0) : ∃ y, y < 2 ^ 31 ∧ z = nI y := by
  have a : (0 : Int) ≤ z.toInt := Int32.le_iff_toInt_le.mp (Int32.not_lt.mp h)
  have b := Int32.toInt_lt z
  refine ⟨z.toInt.toNat, by omega, Int32.toInt_inj.mp ?_⟩
  rw [nI_toInt (by omega)]
  omega
/-- a step down -/
theorem wt_w_s {q : Nat × Nat} {r x y : Nat} (h : (x, y) = wt_w T f n q r) : wt_n T f n (x, y) = wt_w T f n q (r + 1) := by
  show _ = wt_n T f n (wt_w T f n q r)
  rw [← h]
theorem wt_n_r {x y : Nat} (h0 : 0 < y) (c : wt_a f (wt_f T f n) (T.2.1 x) ≤ y - 1) : wt_n T f n (x, y) = (wt_b T f n (T.2.2 x - 1), y - 1 - wt_a f (wt_f T f n) (T.2.1 x)) := by
  unfold wt_n
  rw [if_neg (by show ¬ y = 0; omega), if_pos c]
theorem wt_n_l {x y : Nat} (h0 : 0 < y) (c : ¬ wt_a f (wt_f T f n) (T.2.1 x) ≤ y - 1) : wt_n T f n (x, y) = (wt_b T f n (T.2.1 x - 1), y - 1) := by
  unfold wt_n
  rw [if_neg (by show ¬ y = 0; omega), if_neg c]
theorem wt_y4_e {q : Nat × Nat} {r x y : Nat} (wf : cg_wf T n) (hL : ∀ t, t < n → f t < n) (hn : n ≤ 40) (g : wt_g T f n q) (h : (x, y) = wt_w T f n q r) (he : y = 0 ∨ 40 ≤ r) : T.1 x = T.1 (wt_w T f n q 40).1 := by
  have e := wt_w_e wf hL hn g (r := r) (by rw [← h]; exact he)
  rw [← e, ← h]
theorem cx_fill_s {g : Nat → Nat} {v y : Nat} (h : ∀ u, u < v → g u = y) : ∀ u, u < v + 1 → wt_u g v y u = y := by
  intro u hu
  unfold wt_u
  by_cases e : u = v
  · rw [if_pos e]
  · rw [if_neg e]; exact h u (by omega)
end WA
end
section
/-! the reference's own steps -/
theorem wt_u_id {g : Nat → Nat} {v : Nat} : wt_u g v (g v) = g := by
  funext u
  unfold wt_u
  by_cases e : u = v
  · rw [if_pos e, e]
  · rw [if_neg e]
theorem cg_mu_n2 {n : Nat} {f g : Nat → Nat} {i j v : Nat} (hg : g = cg_mu n f i j v) (h : ¬ g v = max (f i) (f j)) : wt_u g v (g v) = cg_mu n f i j (v + 1) := by
  rw [wt_u_id]
  exact cg_mu_n hg h
theorem cg_in_y2 {T : cg_T} {n v q : Nat} {p : cg_P} {g : Nat → Nat} {ch : Bool} (hg : (g, ch) = cg_in T n p v q) (h1 : ¬ g v = g q) (h2 : cg_lk T g v q) : (cg_mg n g v q, true) = cg_in T n p v (q + 1) := by
  show _ = cg_st T n (cg_in T n p v q) v q
  rw [← hg]
  unfold cg_st
  rw [if_pos ⟨h1, h2⟩]
theorem cg_in_n2 {T : cg_T} {n v q : Nat} {p : cg_P} {g : Nat → Nat} {ch : Bool} (hg : (g, ch) = cg_in T n p v q) (h : g v = g q ∨ ¬ cg_lk T g v q) : (g, ch) = cg_in T n p v (q + 1) := by
  show _ = cg_st T n (cg_in T n p v q) v q
  rw [← hg]
  unfold cg_st
  rw [if_neg (fun z => h.elim (fun e => z.1 e) (fun e => e z.2))]
theorem cg_ou_end {T : cg_T} {n v : Nat} {f g : Nat → Nat} {ch : Bool} (hg : (g, ch) = cg_ou T n (f, false) v) (h1 : v ≤ n) (h2 : n ≤ v) : (g, ch) = cg_rd T n f := by
  rw [hg, Nat.le_antisymm h1 h2]
  rfl
theorem cg_rc2 {T : cg_T} {n r : Nat} {f g g3 : Nat → Nat} {ch : Bool} (k : cg_ok n f) (h : g3 = cg_it T n f r) (e : (g, ch) = cg_rd T n g3) : ch = true ∨ cg_fx T n (cg_it T n f (r + 1)) := by
  have e2 : ch = (cg_rd T n g3).2 := congrArg Prod.snd e
  rw [h] at e2
  cases hb : ch with
  | true => exact Or.inl rfl
  | false => exact Or.inr (cg_it_x k (e2.symm.trans hb))
theorem cx_ch1 {x : Int32} {bf q : Nat} (h : q < bf) : (fun v => decide (v < bf) || bt x v) q = true := by
  show (decide (q < bf) || bt x q) = true
  rw [decide_eq_true h]; rfl
theorem cx_ch2 {x : Int32} {bf q : Nat} (hq : q < 32) (h : (x >>> (nI q &&& 31)) &&& nI 1 = nI 1) : (fun v => decide (v < bf) || bt x v) q = true := by
  show (decide (q < bf) || bt x q) = true
  rw [(cb_shr hq).mp h, Bool.or_true]
theorem cx_ch3 {x : Int32} {bf q : Nat} (hq : q < 32) (h1 : bf ≤ q) (h : ¬ (x >>> (nI q &&& 31)) &&& nI 1 = nI 1) : (fun v => decide (v < bf) || bt x v) q = false := by
  show (decide (q < bf) || bt x q) = false
  rw [decide_eq_false (by omega), Bool.false_or]
  cases hb : bt x q with
  | false => rfl
  | true => exact absurd ((cb_shr hq).mpr hb) h
theorem cg_it_ag {T : cg_T} {n : Nat} {f g : Nat → Nat} (w : cg_wf T n) (h : ∀ u, u < n → g u = f u) : ∀ r u, u < n → cg_it T n g r u = cg_it T n f r u := by
  intro r
  induction r with
  | zero => exact h
  | succ r ih => exact (cg_rd_ag w ih).2
theorem cg_work_e {T : cg_T} {n q k : Nat} {lf rt g : Nat → Nat} {C : Nat → Bool} (w : cg_wf T n) (h : ∀ u, u < n → g u = cg_eq n lf rt C q u) (hq : q = k) : ∀ u, u < n → cg_it T n g n u = cg_lab T n lf rt C k u := by
  rw [hq] at h
  exact cg_it_ag w h n
theorem cg_all2 {T : cg_T} {n k : Nat} {lf rt : Nat → Nat} {x : Int32} : cg_lab T n lf rt (fun v => decide (v < k) || bt x v) k = cg_lab T n lf rt (fun _ => true) k := cg_lab_ex (fun i hi => by rw [decide_eq_true hi]; rfl)
theorem cg_J_dec {S : Nat → Int32} {F E lf rt g : Nat → Nat} {n k i j : Nat} {C : Nat → Bool} (h : ∀ z, z < n → g z = cg_lab (S, F, E) n lf rt C k z) (hi : i < n) (hj : j < n) : decide (g i = g j) = cg_J S F E n lf rt k i j C := by
  rw [h i hi, h j hj]; rfl
theorem cx_wt {P : Prop} {_ : Decidable P} (h : ¬ P) : nI 1 = bI (!decide P) := by rw [decide_eq_false h]; rfl
theorem cx_wf {P : Prop} {_ : Decidable P} (h : P) : nI 0 = bI (!decide P) := by rw [decide_eq_true h]; rfl
theorem cx_wsh {P : Prop} {_ : Decidable P} (h : (!decide P) = false) : P := by
  by_cases q : P
  · exact q
  · rw [decide_eq_false q] at h; exact absurd h (by decide)
theorem cx_wno {P : Prop} {_ : Decidable P} (h : (!decide P) = true) : ¬ P := by
  intro q
  rw [decide_eq_true q] at h; exact absurd h (by decide)
theorem cx_15 {x : Int32} : nI 15 < x ↔ ¬ x < nI 16 := by
  rw [Int32.not_lt, Int32.lt_iff_toInt_lt, Int32.le_iff_toInt_le, nI_toInt (by decide), nI_toInt (by decide)]
  omega
theorem cx_sw2 {n : Nat} {sy a b : Int32} (b1 : nI 15 < sy) : ¬ cx_sh n sy a b := fun h => (cx_15.mp b1) h.1.2
theorem cx_sw4 {n : Nat} {sy a b : Int32} (b4 : ¬ b = -1) (b5 : ¬ cx_T n b) : ¬ cx_sh n sy a b := fun h => (cx_sh_a h).2.elim b4 b5
theorem cx_sw5 {n : Nat} {sy a b : Int32} (b0 : ¬ sy < 0) (b1 : ¬ nI 15 < sy) (b2 : a = -1 ∨ cx_T n a) (b4 : b = -1 ∨ cx_T n b) (b6 : ¬ a = -1 ∨ b = -1) : cx_sh n sy a b := by
  refine ⟨⟨Int32.not_lt.mp b0, Decidable.byContradiction fun q => b1 (cx_15.mpr q)⟩, ?_⟩
  rcases b2 with h | h
  · rcases b6 with g | g
    · exact absurd h g
    · exact Or.inl ⟨h, g⟩
  · exact Or.inr ⟨h, b4⟩
section MK2
variable {n x y v : Nat} {S : Nat → Int32} {F E : Nat → Nat} {sy : Int32}
theorem an_make_5 (hn : n ≤ 40) (h : cx_sh n sy (aI x) (aI y)) (hx : x ≤ n) (hy : y ≤ n) (hno : ∀ u, u < v → cg_PN S F E sy x y u = false) (hp : cg_PN S F E sy x y v = true) (hv : v < n) : nI v = an_make n S F E sy (aI x) (aI y) := by
  have e := cg_sr_y hno hp hv
  have a := an_make_2 (S := S) (F := F) (E := E) hn h hx hy (by omega)
  rw [← e] at a
  exact a
theorem st_make_5 (hn : n ≤ 40) (hx : x ≤ n) (hy : y ≤ n) (hno : ∀ u, u < v → cg_PN S F E sy x y u = false) (hp : cg_PN S F E sy x y v = true) (hv : v < n) : (n, S, F, E) = st_make n S F E sy (aI x) (aI y) := by
  have e := cg_sr_y hno hp hv
  exact st_make_2 hn hx hy (by omega)
end MK2
theorem cx_con1 {P : Nat → Bool} {v : Nat} {ch : Bool} (h : ch = decide (cg_fs P v = v)) (b1 : ch = false) : false = decide (cg_fs P (v + 1) = v + 1) := by
  rw [cg_fs_s, ← h, b1]; rfl
theorem cx_con2 {f on ot : Nat → Nat} {v : Nat} {ch : Bool} (h : ch = decide (cg_fs (cg_PC f on ot) v = v)) (b1 : ch = true) (b2 : decide (f (on v) = f (ot v)) = false) : true = decide (cg_fs (cg_PC f on ot) (v + 1) = v + 1) := by
  rw [cg_fs_s, ← h, b1, show cg_PC f on ot v = false from b2]; rfl
theorem cx_con3 {f on ot : Nat → Nat} {v : Nat} {ch : Bool} (h : ch = decide (cg_fs (cg_PC f on ot) v = v)) (b2 : decide (f (on v) = f (ot v)) = true) : false = decide (cg_fs (cg_PC f on ot) (v + 1) = v + 1) := by
  rw [cg_fs_s, show cg_PC f on ot v = true from b2, Bool.not_true, Bool.and_false]
theorem cx_con4 {n d v : Nat} {f g on ot : Nat → Nat} {ch : Bool} (hd : cg_we n on ot d) (hg : ∀ z, z < n → g z = f z) (h : ch = decide (cg_fs (cg_PC g on ot) v = v)) (hv : v = d) : bI ch = bI (an_cons d f on ot) := by
  rw [← an_cons_ag hd hg, h, hv]; rfl
theorem cx_mem1 {g : Nat → Nat} {i v : Nat} (h : decide (g i = g v) = true) : cg_PM g i v = true := decide_eq_true (of_decide_eq_true h).symm
theorem cx_mem2 {g : Nat → Nat} {i v : Nat} (h : decide (g i = g v) = false) : cg_PM g i v = false := decide_eq_false (fun e => of_decide_eq_false h e.symm)
section FI
variable {S : Nat → Int32} {F E lf rt : Nat → Nat} {n k i j : Nat}
theorem cg_J_z {q : Nat} : cg_J S F E n lf rt k i j (fun z => decide (z < q) || bt (nI 0) z) = cg_J S F E n lf rt k i j (fun z => decide (z < q)) := cg_J_ex (fun v _ => by rw [show bt (nI 0) v = false from b_0 v, Bool.or_false])
theorem an_since_f (hn : n ≤ 40) (hi : i < n) (hj : j < n) : aI (cg_sr (fun q => cg_J S F E n lf rt k i j (fun z => decide (z < q) || bt (nI 0) z)) (k + 1)) = an_since n S F E k lf rt (nI i) (nI j) := by
  unfold an_since
  rw [if_pos (cx_T2 hn hi hj), cx_nn hn hi, cx_nn hn hj]
  exact congrArg aI (cg_sr_ag (fun v _ => cg_J_z))
theorem cg_J_bw {x : Int32} {q : Nat} : cg_J S F E n lf rt k i j (fun z => decide (z < q) || bt x z) = cg_J S F E n lf rt k i j (cg_bw x q) := cg_J_ex (fun v _ => Bool.or_comm _ _)
theorem cg_Jm {C D : Nat → Bool} (wf : cg_wf (S, F, E) n) (we : cg_we n lf rt k) (hi : i < n) (hj : j < n) (h : ∀ v, v < k → C v = true → D v = true) (c : cg_J S F E n lf rt k i j C = true) : cg_J S F E n lf rt k i j D = true := decide_eq_true (cg_mono wf we h i hi j hj (of_decide_eq_true c))
theorem cg_sr_p {P : Nat → Bool} {m q : Nat} (h : q + 1 = cg_sr P m) : q < m ∧ P q = true ∧ ∀ u, u < q → P u = false := by
  unfold cg_sr at h
  by_cases c : cg_fs P m < m
  · rw [if_pos c] at h
    have e : q = cg_fs P m := by omega
    have a := cg_fs_p m c
    rw [← e] at a c
    exact ⟨c, a.1, a.2⟩
  · rw [if_neg c] at h
    omega
theorem cg_sr_f {P : Nat → Bool} {m p : Nat} (hp : p < m) (h : P p = true) : ¬ cg_sr P m = 0 ∧ cg_sr P m - 1 ≤ p := by
  obtain ⟨u, h1, h2⟩ := cg_least (fun v => v < m ∧ P v = true) ⟨p, hp, h⟩
  have hle : u ≤ p := Nat.le_of_not_lt fun q => h2 p q ⟨hp, h⟩
  have e := cg_sr_y (P := P) (n := m) (v := u) (fun v hv => by
    cases hb : P v with
    | false => rfl
    | true => exact absurd ⟨by omega, hb⟩ (h2 v hv)) h1.2 h1.1
  omega
def cg_xq (S : Nat → Int32) (F E : Nat → Nat) (n : Nat) (lf rt : Nat → Nat) (k i j : Nat) (x : Int32) : Nat := cg_sr (fun q => cg_J S F E n lf rt k i j (fun z => decide (z < q) || bt x z)) (k + 1)
/-- what is found for x: from there on downwards, nothing else is kept -/
theorem cg_xq_s {x : Int32} {q m : Nat} (wf : cg_wf (S, F, E) n) (we : cg_we n lf rt k) (hi : i < n) (hj : j < n) (h : q + 1 = cg_xq S F E n lf rt k i j x) (hm : q ≤ m) : cg_xp (cg_J S F E n lf rt k i j) m x = cg_xp (cg_J S F E n lf rt k i j) q x := by
  obtain ⟨-, a, -⟩ := cg_sr_p h
  refine cg_xp_sk m hm (fun v h1 _ => ?_)
  refine cg_Jm wf we hi hj (fun u _ c => ?_) a
  show (bt x u || decide (u < v)) = true
  have c : (decide (u < q) || bt x u) = true := c
  rw [Bool.or_eq_true] at c ⊢
  rcases c with c | c
  · exact Or.inr (decide_eq_true (Nat.lt_of_lt_of_le (of_decide_eq_true c) h1))
  · exact Or.inl c
theorem cg_xq_0 (wf : cg_wf (S, F, E) n) (we : cg_we n lf rt k) (hi : i < n) (hj : j < n) {q : Nat} (h : q + 1 = cg_xq S F E n lf rt k i j (nI 0)) : cg_xp (cg_J S F E n lf rt k i j) q (nI 0) = cg_xp (cg_J S F E n lf rt k i j) k 0 := (cg_xq_s wf we hi hj h (by have := (cg_sr_p h).1; omega)).symm
theorem cg_xq_n {x z : Int32} {q : Nat} (hk : k ≤ 24) (wf : cg_wf (S, F, E) n) (we : cg_we n lf rt k) (hi : i < n) (hj : j < n) (h : q + 1 = cg_xq S F E n lf rt k i j x) (h0 : 0 < q) (hx : cg_xp (cg_J S F E n lf rt k i j) q x = z) :
    ¬ cg_xq S F E n lf rt k i j (x ||| (nI 1 <<< (nI (q - 1) &&& 31))) = 0 ∧ cg_xq S F E n lf rt k i j (x ||| (nI 1 <<< (nI (q - 1) &&& 31))) - 1 < q ∧ cg_xp (cg_J S F E n lf rt k i j) (cg_xq S F E n lf rt k i j (x ||| (nI 1 <<< (nI (q - 1) &&& 31))) - 1) (x ||| (nI 1 <<< (nI (q - 1) &&& 31))) = z := by
  obtain ⟨p, rfl⟩ : ∃ p, q = p + 1 := ⟨q - 1, by omega⟩
  obtain ⟨a1, a2, a3⟩ := cg_sr_p h
  rw [show p + 1 - 1 = p from rfl]
  have hb : ∀ v, v < k → (decide (v < p) || bt (x ||| (nI 1 <<< (nI p &&& 31))) v) = (decide (v < p + 1) || bt x v) := by
    intro v hv
    rw [b_or, cb_one (by omega) (by omega)]
    by_cases e : v = p
    · subst e
      rw [decide_eq_true rfl, decide_eq_true (Nat.lt_succ_self v), Bool.or_true, Bool.or_true, Bool.true_or]
    · rw [decide_eq_false e, Bool.or_false]
      by_cases c : v < p
      · rw [decide_eq_true c, decide_eq_true (by omega : v < p + 1)]
      · rw [decide_eq_false c, decide_eq_false (by omega : ¬ v < p + 1)]
  have f1 : cg_J S F E n lf rt k i j (fun v => decide (v < p) || bt (x ||| (nI 1 <<< (nI p &&& 31))) v) = true := (cg_J_ex hb).trans a2
  obtain ⟨c1, c2⟩ := cg_sr_f (P := fun q => cg_J S F E n lf rt k i j (fun v => decide (v < q) || bt (x ||| (nI 1 <<< (nI p &&& 31))) v)) (m := k + 1) (p := p) (by omega) f1
  refine ⟨c1, Nat.lt_succ_of_le c2, ?_⟩
  have g : cg_xp (cg_J S F E n lf rt k i j) p (x ||| (nI 1 <<< (nI p &&& 31))) = z := cg_xp_0 hx (cg_J_bw.symm.trans (a3 p (Nat.lt_succ_self p)))
  rw [← g]
  have c9 : ¬ cg_xq S F E n lf rt k i j (x ||| (nI 1 <<< (nI p &&& 31))) = 0 := c1
  have c8 : cg_xq S F E n lf rt k i j (x ||| (nI 1 <<< (nI p &&& 31))) - 1 ≤ p := c2
  exact (cg_xq_s wf we hi hj (by omega) c8).symm
theorem cg_xq_y (wf : cg_wf (S, F, E) n) (we : cg_we n lf rt k) (hi : i < n) (hj : j < n) (h : ¬ cg_xq S F E n lf rt k i j (nI 0) = 0) : cg_J S F E n lf rt k i j (fun _ => true) = true := by
  obtain ⟨-, a, -⟩ := cg_sr_p (q := cg_xq S F E n lf rt k i j (nI 0) - 1) (P := fun q => cg_J S F E n lf rt k i j (fun z => decide (z < q) || bt (nI 0) z)) (m := k + 1) (by unfold cg_xq; unfold cg_xq at h; omega)
  exact cg_Jm wf we hi hj (fun _ _ _ => rfl) a
theorem cg_xq_no (h : cg_xq S F E n lf rt k i j (nI 0) = 0) : cg_J S F E n lf rt k i j (fun _ => true) = false := by
  cases hb : cg_J S F E n lf rt k i j (fun _ => true) with
  | false => rfl
  | true =>
    refine absurd h (cg_sr_f (p := k) (Nat.lt_succ_self k) ?_).1
    exact (cg_J_ex (fun v hv => by rw [decide_eq_true hv]; rfl)).trans hb
theorem cg_J_nt2 {v : Nat} (hv : v < k) (hk : k ≤ 24) : cg_J S F E n lf rt k i j (fun u => decide (u < 0) || bt (cb_ab k &&& ((nI 1 <<< (nI v &&& 31)) ^^^ (-1))) u) = cg_J S F E n lf rt k i j (fun u => !decide (u = v)) := (cg_J_ex (fun u _ => by rw [decide_eq_false (Nat.not_lt_zero u), Bool.false_or])).trans (cg_J_nt hv hk)
end FI
end
section
/-! the reference's weights: 0 for not known -/
def wz (x : Nat) : Nat := if x = 2 ^ 60 then 0 else x
def rs (T : cg_T) (L h : Nat → Nat) (t : Nat) : Nat := if (¬ T.2.1 t = 0 ∧ wt_a L h (T.2.1 t) = 0) ∨ (¬ T.2.2 t = 0 ∧ wt_a L h (T.2.2 t) = 0) then 0 else 1 + wt_a L h (T.2.1 t) + wt_a L h (T.2.2 t)
section RS
variable {T : cg_T} {L h w : Nat → Nat} {n t : Nat}
theorem rs_0 (q : (¬ T.2.1 t = 0 ∧ wt_a L h (T.2.1 t) = 0) ∨ (¬ T.2.2 t = 0 ∧ wt_a L h (T.2.2 t) = 0)) : 0 = rs T L h t := (if_pos q).symm
theorem rs_1 (q1 : T.2.1 t = 0 ∨ ¬ wt_a L h (T.2.1 t) = 0) (q2 : T.2.2 t = 0 ∨ ¬ wt_a L h (T.2.2 t) = 0) : 1 + wt_a L h (T.2.1 t) + wt_a L h (T.2.2 t) = rs T L h t := (if_neg (fun z => z.elim (fun e => q1.elim e.1 (fun q => q e.2)) (fun e => q2.elim e.1 (fun q => q e.2)))).symm
theorem wt_a_h (hL : ∀ u, u < n → L u < n) (hH : ∀ j, j < n → h j < 2 ^ 62) {x : Nat} (hx : x ≤ n) : wt_a L h x < 2 ^ 62 := by
  cases x with
  | zero => exact Nat.two_pow_pos 62
  | succ y => exact hH _ (hL y (by omega))
theorem ra (hL : ∀ u, u < n → L u < n) (hR : ∀ j, j < n → h j = wz (w j)) (hB : ∀ j, w j = 2 ^ 60 ∨ (1 ≤ w j ∧ w j < 2 ^ 40)) {x : Nat} (hx : x ≤ n) :
    (x = 0 ∧ wt_a L h x = 0 ∧ wt_a L w x = 0) ∨ (¬ x = 0 ∧ wt_a L h x = 0 ∧ wt_a L w x = 2 ^ 60) ∨ (¬ x = 0 ∧ 1 ≤ wt_a L h x ∧ wt_a L h x = wt_a L w x ∧ wt_a L w x < 2 ^ 40) := by
  cases x with
  | zero => exact Or.inl ⟨rfl, rfl, rfl⟩
  | succ y =>
    have e : wt_a L h (y + 1) = wz (w (L y)) := hR _ (hL y (by omega))
    have e2 : wt_a L w (y + 1) = w (L y) := rfl
    rw [e, e2]
    rcases hB (L y) with q | q
    · rw [q]
      exact Or.inr (Or.inl ⟨by omega, if_pos rfl, rfl⟩)
    · have z : wz (w (L y)) = w (L y) := if_neg (by omega)
      rw [z]
      exact Or.inr (Or.inr ⟨by omega, q.1, rfl, q.2⟩)
theorem rs_c (wf : cg_wf T n) (ht : t < n) (hL : ∀ u, u < n → L u < n) (hR : ∀ j, j < n → h j = wz (w j)) (hB : ∀ j, w j = 2 ^ 60 ∨ (1 ≤ w j ∧ w j < 2 ^ 40)) :
    (rs T L h t = 0 ∧ 2 ^ 60 ≤ wt_c T L w t) ∨ (rs T L h t = wt_c T L w t ∧ 0 < wt_c T L w t ∧ wt_c T L w t < 2 ^ 60) := by
  have a := wf t ht
  have r1 := ra (L := L) hL hR hB (x := T.2.1 t) (by omega)
  have r2 := ra (L := L) hL hR hB (x := T.2.2 t) (by omega)
  have ec : wt_c T L w t = 1 + wt_a L w (T.2.1 t) + wt_a L w (T.2.2 t) := rfl
  by_cases q : (¬ T.2.1 t = 0 ∧ wt_a L h (T.2.1 t) = 0) ∨ (¬ T.2.2 t = 0 ∧ wt_a L h (T.2.2 t) = 0)
  · have e : rs T L h t = 0 := if_pos q
    left
    refine ⟨e, ?_⟩
    rw [ec]
    omega
  · have e : rs T L h t = 1 + wt_a L h (T.2.1 t) + wt_a L h (T.2.2 t) := if_neg q
    right
    rw [e, ec]
    omega
theorem wz_60 : wz (2 ^ 60) = 0 := if_pos rfl
theorem wz_k {x : Nat} (h : x < 2 ^ 60) : wz x = x := if_neg (by omega)
/-- one term's step, both sides -/
theorem rs_y {p : cg_P} (wf : cg_wf T n) (ht : t < n) (hL : ∀ u, u < n → L u < n) (hR : ∀ j, j < n → h j = wz (p.1 j)) (hB : ∀ j, p.1 j = 2 ^ 60 ∨ (1 ≤ p.1 j ∧ p.1 j < 2 ^ 40)) (h1 : 0 < rs T L h t) (h2 : h (L t) = 0 ∨ rs T L h t < h (L t)) :
    (∀ j, j < n → wt_u h (L t) (rs T L h t) j = wz ((wt_s T L p t).1 j)) ∧ true = (wt_s T L p t).2 := by
  have hl := hR _ (hL t ht)
  rcases rs_c wf ht hL hR hB with c | c
  · omega
  · have lt : wt_c T L p.1 t < p.1 (L t) := by
      rcases hB (L t) with b | b
      · omega
      · rw [wz_k (by omega)] at hl
        omega
    have e : wt_s T L p t = (wt_u p.1 (L t) (wt_c T L p.1 t), true) := if_pos lt
    rw [e]
    refine ⟨fun j hj => ?_, rfl⟩
    show wt_u h (L t) (rs T L h t) j = wz (wt_u p.1 (L t) (wt_c T L p.1 t) j)
    by_cases q : j = L t
    · rw [q, wt_u_at, wt_u_at, c.1, wz_k c.2.2]
    · rw [wt_u_ne q, wt_u_ne q]
      exact hR j hj
theorem rs_n {p : cg_P} {ch : Bool} (wf : cg_wf T n) (ht : t < n) (hL : ∀ u, u < n → L u < n) (hR : ∀ j, j < n → h j = wz (p.1 j)) (hc : ch = p.2) (hB : ∀ j, p.1 j = 2 ^ 60 ∨ (1 ≤ p.1 j ∧ p.1 j < 2 ^ 40)) (h1 : rs T L h t ≤ 0 ∨ (¬ h (L t) = 0 ∧ h (L t) ≤ rs T L h t)) :
    (∀ j, j < n → h j = wz ((wt_s T L p t).1 j)) ∧ ch = (wt_s T L p t).2 := by
  have hl := hR _ (hL t ht)
  have nlt : ¬ wt_c T L p.1 t < p.1 (L t) := by
    rcases rs_c wf ht hL hR hB with c | c
    · rcases hB (L t) with b | b <;> omega
    · rcases hB (L t) with b | b
      · rw [b, wz_60] at hl
        omega
      · rw [wz_k (by omega)] at hl
        omega
  have e : wt_s T L p t = p := if_neg nlt
  rw [e]
  exact ⟨hR, hc⟩
/-- weights that are known -/
theorem wt_f_k (wf : cg_wf T n) (hL : ∀ u, u < n → L u < n) (hn : n ≤ 40) : ∀ u, u < n → wt_f T L n (L u) < 2 ^ 60 := by
  intro u hu
  have a := wt_y_lt wf (wt_fin wf hL hn).1 u hu
  exact Nat.lt_of_lt_of_le a (Nat.pow_le_pow_right (by decide) (by omega))
theorem wt_f_h (wf : cg_wf T n) (hL : ∀ u, u < n → L u < n) (hn : n ≤ 40) (hR : ∀ j, j < n → h j = wz (wt_f T L n j)) : ∀ u, u < n → h (L u) = wt_f T L n (L u) := fun u hu => by rw [hR _ (hL u hu), wz_k (wt_f_k wf hL hn u hu)]
theorem wt_a_k (wf : cg_wf T n) (hL : ∀ u, u < n → L u < n) (hn : n ≤ 40) (hR : ∀ j, j < n → h j = wz (wt_f T L n j)) {x : Nat} (hx : x ≤ n) : wt_a L h x = wt_a L (wt_f T L n) x := by
  cases x with
  | zero => rfl
  | succ y => exact wt_f_h wf hL hn hR y (by omega)
theorem rs_k (wf : cg_wf T n) (hL : ∀ u, u < n → L u < n) (hn : n ≤ 40) (hR : ∀ j, j < n → h j = wz (wt_f T L n j)) (ht : t < n) : rs T L h t = wt_c T L (wt_f T L n) t := by
  rcases rs_c wf ht hL hR (wt_i_B (T := T) (L := L) wf hn n).2 with c | c
  · have a := wf t ht
    have ar : ∀ x, x ≤ t → wt_a L (wt_f T L n) x < 2 ^ t := fun x hx => wt_a_lt (fun u hu => wt_y_lt wf (wt_fin wf hL hn).1 u (by omega)) hx
    have b1 := ar _ a.1
    have b2 := ar _ a.2
    have b3 : 2 ^ t ≤ 2 ^ 40 := Nat.pow_le_pow_right (by decide) (by omega)
    have ec : wt_c T L (wt_f T L n) t = 1 + wt_a L (wt_f T L n) (T.2.1 t) + wt_a L (wt_f T L n) (T.2.2 t) := rfl
    have := c.2
    omega
  · exact c.1
theorem rs_lt (hL : ∀ u, u < n → L u < n) (hH : ∀ j, j < n → h j < 2 ^ 62) (wf : cg_wf T n) (ht : t < n) : rs T L h t < 2 ^ 63 := by
  have a := wf t ht
  have b1 := wt_a_h (L := L) hL hH (x := T.2.1 t) (by omega)
  have b2 := wt_a_h (L := L) hL hH (x := T.2.2 t) (by omega)
  unfold rs
  split <;> omega
theorem wz_lt {x : Nat} (h : x ≤ 2 ^ 60) : wz x < 2 ^ 62 := by
  unfold wz
  split <;> omega
theorem wt_o_u2 {p : cg_P} (hp : ∀ j, p.1 j ≤ 2 ^ 60) (v : Nat) : ∀ j, (wt_o T L p v).1 j ≤ 2 ^ 60 := fun j => Nat.le_trans (wt_o_l0 v j) (hp j)
end RS
end
section
/-! the state stays well formed -/
section WFS
variable {n k d dp : Nat} {S : Nat → Int32} {F E lf rt on ot ct st dt : Nat → Nat}
theorem WF_0 : cg_WF 0 F E 0 lf rt 0 on ot 0 ct st dt := ⟨⟨by omega, fun t ht => absurd ht (Nat.not_lt_zero t)⟩, by omega, fun i hi => absurd hi (Nat.not_lt_zero i), by omega, fun i hi => absurd hi (Nat.not_lt_zero i), by omega, fun j hj => absurd hj (Nat.not_lt_zero j), fun i j _ hj => absurd hj (Nat.not_lt_zero j)⟩
theorem WF_wf (w : cg_WF n F E k lf rt d on ot dp ct st dt) : cg_wf (S, F, E) n := fun t ht => w.1.2 t ht
theorem WF_k (w : cg_WF n F E k lf rt d on ot dp ct st dt) : k ≤ 24 := w.2.1
theorem WF_we (w : cg_WF n F E k lf rt d on ot dp ct st dt) : cg_we n lf rt k := w.2.2.1
theorem WF_d (w : cg_WF n F E k lf rt d on ot dp ct st dt) : d ≤ 16 := w.2.2.2.1
theorem WF_wo (w : cg_WF n F E k lf rt d on ot dp ct st dt) : cg_we n on ot d := w.2.2.2.2.1
theorem cg_we_mono {n m k : Nat} {lf rt : Nat → Nat} (w : cg_we n lf rt k) (h : n ≤ m) : cg_we m lf rt k := fun i hi => ⟨Nat.lt_of_lt_of_le (w i hi).1 h, Nat.lt_of_lt_of_le (w i hi).2 h⟩
theorem cg_we_keep {n k q : Nat} {lf rt : Nat → Nat} {i j : Nat} (w : cg_we n lf rt q) (h : q ≤ k) : cg_we n (wt_u lf k i) (wt_u rt k j) q := fun u hu => by
  rw [wt_u_ne (by omega), wt_u_ne (by omega)]
  exact w u hu
theorem WF_make {sy a b : Int32} {u : cg_TS} (w : cg_WF n F E k lf rt d on ot dp ct st dt) (h : u = st_make n S F E sy a b) : cg_WF u.1 u.2.2.1 u.2.2.2 k lf rt d on ot dp ct st dt := by
  by_cases c : cx_sh n sy a b ∧ cg_qn n S F E sy a b = 0 ∧ n < 40
  · have e : st_make n S F E sy a b = (n + 1, upd S n sy, wt_u F n (cx_c a), wt_u E n (cx_c b)) := if_pos c
    rw [h, e]
    have cc := cx_sh_c w.1.1 c.1
    obtain ⟨⟨h1, h2⟩, h3, h4, h5, h6, h7, h8, h9⟩ := w
    refine ⟨⟨by show n + 1 ≤ 40; omega, ?_⟩, h3, cg_we_up h4, h5, cg_we_up h6, h7, fun j hj => ?_, h9⟩
    · exact cg_wf_add (S := S) (sy := sy) h2 cc.1 cc.2
    · obtain ⟨a1, a2, a3, a4, a5⟩ := h8 j hj
      exact ⟨Nat.le_succ_of_le a1, a2, a3, a4, a5⟩
  · have e : st_make n S F E sy a b = (n, S, F, E) := if_neg c
    rw [h, e]
    exact w
theorem WF_eq {x y : Int32} {u : cg_ES} (w : cg_WF n F E k lf rt d on ot dp ct st dt) (h : u = st_add 24 n k lf rt x y) : cg_WF n F E u.1 u.2.1 u.2.2 d on ot dp ct st dt := by
  by_cases c : (cx_T n x ∧ cx_T n y) ∧ k < 24
  · have e : st_add 24 n k lf rt x y = (k + 1, wt_u lf k (cx_n x), wt_u rt k (cx_n y)) := if_pos c
    rw [h, e]
    obtain ⟨⟨h1, h2⟩, h3, h4, h5, h6, h7, h8, h9⟩ := w
    refine ⟨⟨h1, h2⟩, by show k + 1 ≤ 24; omega, cg_we_add h4 (cx_T_nn h1 c.1.1) (cx_T_nn h1 c.1.2), h5, h6, h7, fun j hj => ?_, h9⟩
    obtain ⟨a1, a2, a3, a4, a5⟩ := h8 j hj
    exact ⟨a1, Nat.le_succ_of_le a2, a3, cg_we_keep a4 a2, a5⟩
  · have e : st_add 24 n k lf rt x y = (k, lf, rt) := if_neg c
    rw [h, e]
    exact w
theorem WF_di {x y : Int32} {u : cg_ES} (w : cg_WF n F E k lf rt d on ot dp ct st dt) (h : u = st_add 16 n d on ot x y) : cg_WF n F E k lf rt u.1 u.2.1 u.2.2 dp ct st dt := by
  by_cases c : (cx_T n x ∧ cx_T n y) ∧ d < 16
  · have e : st_add 16 n d on ot x y = (d + 1, wt_u on d (cx_n x), wt_u ot d (cx_n y)) := if_pos c
    rw [h, e]
    obtain ⟨⟨h1, h2⟩, h3, h4, h5, h6, h7, h8, h9⟩ := w
    refine ⟨⟨h1, h2⟩, h3, h4, by show d + 1 ≤ 16; omega, cg_we_add h6 (cx_T_nn h1 c.1.1) (cx_T_nn h1 c.1.2), h7, fun j hj => ?_, h9⟩
    obtain ⟨a1, a2, a3, a4, a5⟩ := h8 j hj
    exact ⟨a1, a2, Nat.le_succ_of_le a3, a4, cg_we_keep a5 a3⟩
  · have e : st_add 16 n d on ot x y = (d, on, ot) := if_neg c
    rw [h, e]
    exact w
theorem WF_op {u : cg_LS} (w : cg_WF n F E k lf rt d on ot dp ct st dt) (h : u = st_open n k d dp ct st dt) : cg_WF n F E k lf rt d on ot u.1 u.2.1 u.2.2.1 u.2.2.2 := by
  by_cases c : dp < 6
  · have e : st_open n k d dp ct st dt = (dp + 1, wt_u ct dp n, wt_u st dp k, wt_u dt dp d) := if_pos c
    rw [h, e]
    obtain ⟨⟨h1, h2⟩, h3, h4, h5, h6, h7, h8, h9⟩ := w
    refine ⟨⟨h1, h2⟩, h3, h4, h5, h6, by show dp + 1 ≤ 6; omega, fun j hj => ?_, fun i j hij hj => ?_⟩
    · have hj : j < dp + 1 := hj
      show wt_u ct dp n j ≤ n ∧ wt_u st dp k j ≤ k ∧ wt_u dt dp d j ≤ d ∧ cg_we (wt_u ct dp n j) lf rt (wt_u st dp k j) ∧ cg_we (wt_u ct dp n j) on ot (wt_u dt dp d j)
      by_cases q : j = dp
      · rw [q, wt_u_at, wt_u_at, wt_u_at]
        exact ⟨Nat.le_refl _, Nat.le_refl _, Nat.le_refl _, h4, h6⟩
      · rw [wt_u_ne q, wt_u_ne q, wt_u_ne q]
        exact h8 j (by omega)
    · have hj : j < dp + 1 := hj
      show wt_u ct dp n i ≤ wt_u ct dp n j ∧ wt_u st dp k i ≤ wt_u st dp k j ∧ wt_u dt dp d i ≤ wt_u dt dp d j
      rw [wt_u_ne (by omega : ¬ i = dp), wt_u_ne (by omega : ¬ i = dp), wt_u_ne (by omega : ¬ i = dp)]
      by_cases q : j = dp
      · rw [q, wt_u_at, wt_u_at, wt_u_at]
        obtain ⟨a1, a2, a3, -⟩ := h8 i (by omega)
        exact ⟨a1, a2, a3⟩
      · rw [wt_u_ne q, wt_u_ne q, wt_u_ne q]
        exact h9 i j hij (by omega)
  · have e : st_open n k d dp ct st dt = (dp, ct, st, dt) := if_neg c
    rw [h, e]
    exact w
theorem WF_cl {u : Nat × Nat × Nat × Nat} (w : cg_WF n F E k lf rt d on ot dp ct st dt) (h : u = st_close n k d dp ct st dt) : cg_WF u.1 F E u.2.1 lf rt u.2.2.1 on ot u.2.2.2 ct st dt := by
  by_cases c : dp = 0
  · have e : st_close n k d dp ct st dt = (n, k, d, dp) := if_pos c
    rw [h, e]
    exact w
  · have e : st_close n k d dp ct st dt = (ct (dp - 1), st (dp - 1), dt (dp - 1), dp - 1) := if_neg c
    rw [h, e]
    obtain ⟨⟨h1, h2⟩, h3, h4, h5, h6, h7, h8, h9⟩ := w
    obtain ⟨a1, a2, a3, a4, a5⟩ := h8 (dp - 1) (by omega)
    refine ⟨⟨Nat.le_trans a1 h1, fun t ht => h2 t (Nat.lt_of_lt_of_le ht a1)⟩, Nat.le_trans a2 h3, a4, Nat.le_trans a3 h5, a5, by show dp - 1 ≤ 6; omega, fun j hj => ?_, fun i j hij hj => ?_⟩
    · have hj : j < dp - 1 := hj
      obtain ⟨b1, b2, b3, b4, b5⟩ := h8 j (by omega)
      obtain ⟨c1, c2, c3⟩ := h9 j (dp - 1) hj (by omega)
      exact ⟨c1, c2, c3, b4, b5⟩
    · have hj : j < dp - 1 := hj
      exact h9 i j hij (by omega)
end WFS
end
section
set_option maxHeartbeats 4000000 in
set_option maxRecDepth 100000 in
theorem c_X2_joins (l : Launch) (dC : Nat → ClassId) (dI : Nat → Nat → Nat) (kI kL : ClassId) (zc : Nat) (zd : Nat) (f : Nat → Nat) (n : Nat) (i : Nat) (j : Nat) (qn : n ≤ 40) (hB : ∀ u, u < n → f u < n) (qi : i < n) (qj : j < n) : Met l yX2_joins (.code yX2_joins cX2_joins 3 (some .boolean) :: tbw) { frames := 0, cells := 0, slots := 0, locals := 0 } (va_Pc [.ref zc, .int (nI i), .int (nI j)] (cx_R (dC, dI) vwCl [(zc, .inr (2, [.ref zd])), (zd, .inl (kI, 40, .inl (cI f)))] [(kI, .int), (kL, .long)])) (vp_Si (fun r => r = bI (decide (f i = f j)))) 0 0 (fun _ => False) := by
  refine Met.ofW (cc := cX2_joins) (maxL := 3) (ret := (some .boolean)) (by decide) rfl ?_
  intro p e s m args below meth c s₁ B hml hv
  obtain ⟨rfl, hP, hK⟩ := hv
  have hx := B.exec
  have hb := B.bytes
  have hr := B.returns
  have hts := atoms_spec (ws := .code yX2_joins cX2_joins 3 (some .boolean) :: tbw) B.pre
  have hw : ∀ w ∈ tbw, w.before _ s = true := fun w h => hts w (List.mem_cons_of_mem _ h)
  have hown : s.vm.findClass RX2 = some m.cls := findClass_of_methodNamed B.named
  have hP : va_P (dC, dI) vwCl [(zc, .inr (2, [.ref zd])), (zd, .inl (kI, 40, .inl (cI f)))] s.heap := hP
  have hl := lv_entry ([.ref zc, .int (nI i), .int (nI j)]) (n := 3) (Nat.le_of_ble_eq_true rfl)
  rw [lg_entry_eq]
  generalize (lg_sl ([.ref zc, .int (nI i), .int (nI j)]) ++ List.replicate (3 - (lg_sl ([.ref zc, .int (nI i), .int (nI j)])).length) Slot.unset).toArray = ls at hl ⊢
  have hl : lv_has ls 3 [(0, .ref zc), (1, .int (nI i)), (2, .int (nI j))] := hl
  refine lv_aload_n hx hb dX2_joins_0 rfl (lv_at hl 0 rfl) ?_
  refine va_get (D := (dC, dI)) (ci := 2) (v := .ref zd) (C := RX2) (T := TX2) (N := 1) hx hb hts (tb_c tbX2) hown hK hP 0 rfl rfl 0 (by decide) (hw _ tw_98) (fun _ h9 => h9) rfl dX2_joins_1 ?_
  refine lv_iload_n hx hb dX2_joins_4 rfl (lv_at hl 1 rfl) ?_
  refine cx_iald hx hb hK hP 1 0 rfl rfl (by first | decide | omega) (v := nI (f i)) (i := i) rfl (by first | omega | exact hB _ (by omega) | exact Nat.lt_of_lt_of_le (hB _ (by omega)) (by omega)) dX2_joins_5 ?_
  refine lv_aload_n hx hb dX2_joins_6 rfl (lv_at hl 0 rfl) ?_
  refine va_get (D := (dC, dI)) (ci := 2) (v := .ref zd) (C := RX2) (T := TX2) (N := 1) hx hb hts (tb_c tbX2) hown hK hP 0 rfl rfl 0 (by decide) (hw _ tw_98) (fun _ h9 => h9) rfl dX2_joins_7 ?_
  refine lv_iload_n hx hb dX2_joins_10 rfl (lv_at hl 2 rfl) ?_
  refine cx_iald hx hb hK hP 1 0 rfl rfl (by first | decide | omega) (v := nI (f j)) (i := j) rfl (by first | omega | exact hB _ (by omega) | exact Nat.lt_of_lt_of_le (hB _ (by omega)) (by omega)) dX2_joins_11 ?_
  refine cx_ne (x := (f i)) (y := (f j)) (tgt := 19) hx hb dX2_joins_12 (by decide) (by first | omega | exact hB _ (by omega) | exact Nat.lt_of_lt_of_le (hB _ (by omega)) (by omega)) (by first | omega | exact hB _ (by omega) | exact Nat.lt_of_lt_of_le (hB _ (by omega)) (by omega)) (fun b0 => ?_) (fun b0 => ?_)
  · skip
    refine lv_iconst (v := nI 0) hx hb dX2_joins_19 (by decide) ?_
    exact W.zret (v := nI 0) hx hb hr (cx_narB false) (fun t ht hW => ⟨_, rfl, cx_bf (by first | assumption | omega | (simp_all; done)), ht⟩) (fun _ h9 => by cases h9) dX2_joins_20
  refine lv_iconst (v := nI 1) hx hb dX2_joins_15 (by decide) ?_
  refine lv_goto (tgt := 20) hx hb dX2_joins_16 (by decide) ?_
  exact W.zret (v := nI 1) hx hb hr (cx_narB true) (fun t ht hW => ⟨_, rfl, cx_bt (by first | assumption | omega | (simp_all; done)), ht⟩) (fun _ h9 => by cases h9) dX2_joins_20

set_option maxHeartbeats 4000000 in
set_option maxRecDepth 100000 in
theorem c_X2_classCount (l : Launch) (dC : Nat → ClassId) (dI : Nat → Nat → Nat) (kI kL : ClassId) (zc : Nat) (zd : Nat) (f : Nat → Nat) (n : Nat) (qn : n ≤ 40) (hB : ∀ u, u < n → f u < n) : Met l yX2_classCount (.code yX2_classCount cX2_classCount 4 (some .int) :: tbw) { frames := 0, cells := 0, slots := 0, locals := 0 } (va_Pc [.ref zc, .int (nI n)] (cx_R (dC, dI) vwCl [(zc, .inr (2, [.ref zd])), (zd, .inl (kI, 40, .inl (cI f)))] [(kI, .int), (kL, .long)])) (vp_Si (fun r => r = nI (cg_cn f n))) 0 0 (fun _ => False) := by
  refine Met.ofW (cc := cX2_classCount) (maxL := 4) (ret := (some .int)) (by decide) rfl ?_
  intro p e s m args below meth c s₁ B hml hv
  obtain ⟨rfl, hP, hK⟩ := hv
  have hx := B.exec
  have hb := B.bytes
  have hr := B.returns
  have hts := atoms_spec (ws := .code yX2_classCount cX2_classCount 4 (some .int) :: tbw) B.pre
  have hw : ∀ w ∈ tbw, w.before _ s = true := fun w h => hts w (List.mem_cons_of_mem _ h)
  have hown : s.vm.findClass RX2 = some m.cls := findClass_of_methodNamed B.named
  have hP : va_P (dC, dI) vwCl [(zc, .inr (2, [.ref zd])), (zd, .inl (kI, 40, .inl (cI f)))] s.heap := hP
  have hl := lv_entry ([.ref zc, .int (nI n)]) (n := 4) (Nat.le_of_ble_eq_true rfl)
  rw [lg_entry_eq]
  generalize (lg_sl ([.ref zc, .int (nI n)]) ++ List.replicate (4 - (lg_sl ([.ref zc, .int (nI n)])).length) Slot.unset).toArray = ls at hl ⊢
  have hl : lv_has ls 4 [(0, .ref zc), (1, .int (nI n))] := hl
  refine lv_iconst (v := nI 0) hx hb dX2_classCount_0 (by decide) ?_
  refine lv_istore_n hx hb dX2_classCount_1 rfl hl (by decide) rfl (fun ls hl => ?_)
  have hl : lv_has ls 4 [(2, .int (nI 0)), (0, .ref zc), (1, .int (nI n))] := hl
  refine lv_iconst (v := nI 0) hx hb dX2_classCount_2 (by decide) ?_
  refine lv_istore_n hx hb dX2_classCount_3 rfl hl (by decide) rfl (fun ls hl => ?_)
  have hl : lv_has ls 4 [(3, .int (nI 0)), (2, .int (nI 0)), (0, .ref zc), (1, .int (nI n))] := hl
  refine cx_loopR2 (fun (v : Nat) (ct : Nat) (ls : Array Slot) => lv_has ls 4 [(2, .int (nI ct)), (3, .int (nI v)), (0, .ref zc), (1, .int (nI n))] ∧ (ct = cg_cn f v) ∧ (v ≤ n)) (fun v ct => n - v) (fun v ct ls hI ih1 => ?_) 0 0 ⟨lv_sub hl [1, 0, 2, 3] rfl, (rfl), (by first | assumption | omega | rfl)⟩
  obtain ⟨hl, hc, hv1⟩ := hI
  refine lv_iload_n hx hb dX2_classCount_4 rfl (lv_at hl 1 rfl) ?_
  refine lv_iload_n hx hb dX2_classCount_5 rfl (lv_at hl 3 rfl) ?_
  refine cx_ge (x := v) (y := n) (tgt := 28) hx hb dX2_classCount_6 (by decide) (by first | omega | exact hB _ (by omega) | exact Nat.lt_of_lt_of_le (hB _ (by omega)) (by omega)) (by first | omega | exact hB _ (by omega) | exact Nat.lt_of_lt_of_le (hB _ (by omega)) (by omega)) (fun b0 => ?_) (fun b0 => ?_)
  · skip
    refine lv_iload_n hx hb dX2_classCount_28 rfl (lv_at hl 0 rfl) ?_
    exact W.iret (v := nI ct) hx hb hr (fun t ht hW => ⟨_, rfl, by rw [hc, Nat.le_antisymm hv1 b0], ht⟩) (fun _ h9 => by cases h9) dX2_classCount_29
  refine lv_aload_n hx hb dX2_classCount_9 rfl (lv_at hl 2 rfl) ?_
  refine va_get (D := (dC, dI)) (ci := 2) (v := .ref zd) (C := RX2) (T := TX2) (N := 1) hx hb hts (tb_c tbX2) hown hK hP 0 rfl rfl 0 (by decide) (hw _ tw_98) (fun _ h9 => h9) rfl dX2_classCount_10 ?_
  refine lv_iload_n hx hb dX2_classCount_13 rfl (lv_at hl 1 rfl) ?_
  refine cx_iald hx hb hK hP 1 0 rfl rfl (by first | decide | omega) (v := nI (f v)) (i := v) rfl (by first | omega | exact hB _ (by omega) | exact Nat.lt_of_lt_of_le (hB _ (by omega)) (by omega)) dX2_classCount_14 ?_
  refine lv_iload_n hx hb dX2_classCount_15 rfl (lv_at hl 1 rfl) ?_
  refine cx_ne (x := (f v)) (y := v) (tgt := 22) hx hb dX2_classCount_16 (by decide) (by first | omega | exact hB _ (by omega) | exact Nat.lt_of_lt_of_le (hB _ (by omega)) (by omega)) (by first | omega | exact hB _ (by omega) | exact Nat.lt_of_lt_of_le (hB _ (by omega)) (by omega)) (fun b1 => ?_) (fun b1 => ?_)
  · skip
    refine lv_iinc (k := 1) (v := nI (v + 1)) hx hb dX2_classCount_22 hl rfl cx_inc1 (by decide) rfl (fun ls hl => ?_)
    have hl : lv_has ls 4 [(3, .int (nI (v + 1))), (2, .int (nI ct)), (0, .ref zc), (1, .int (nI n))] := hl
    refine lv_goto (tgt := 4) hx hb dX2_classCount_25 (by decide) ?_
    exact ih1 (v + 1) ct _ ⟨lv_sub hl [1, 0, 2, 3] rfl, (by first | exact cg_cn_y hc b1 | exact cg_cn_n hc b1), (by first | assumption | omega | rfl)⟩ (by show n - (v + 1) < n - v; omega)
  refine lv_iinc (k := 0) (v := nI (ct + 1)) hx hb dX2_classCount_19 hl rfl cx_inc1 (by decide) rfl (fun ls hl => ?_)
  have hl : lv_has ls 4 [(2, .int (nI (ct + 1))), (3, .int (nI v)), (0, .ref zc), (1, .int (nI n))] := hl
  refine lv_iinc (k := 1) (v := nI (v + 1)) hx hb dX2_classCount_22 hl rfl cx_inc1 (by decide) rfl (fun ls hl => ?_)
  have hl : lv_has ls 4 [(3, .int (nI (v + 1))), (2, .int (nI (ct + 1))), (0, .ref zc), (1, .int (nI n))] := hl
  refine lv_goto (tgt := 4) hx hb dX2_classCount_25 (by decide) ?_
  exact ih1 (v + 1) (ct + 1) _ ⟨lv_sub hl [1, 0, 2, 3] rfl, (by first | exact cg_cn_y hc b1 | exact cg_cn_n hc b1), (by first | assumption | omega | rfl)⟩ (by show n - (v + 1) < n - v; omega)

set_option maxHeartbeats 4000000 in
set_option maxRecDepth 100000 in
theorem c_X2_sameArgument (l : Launch) (dC : Nat → ClassId) (dI : Nat → Nat → Nat) (kI kL : ClassId) (zc : Nat) (zd : Nat) (f : Nat → Nat) (n : Nat) (x : Nat) (y : Nat) (qn : n ≤ 40) (hB : ∀ u, u < n → f u < n) (qx : x ≤ n) (qy : y ≤ n) : Met l yX2_sameArgument (.code yX2_sameArgument cX2_sameArgument 3 (some .boolean) :: tbw) { frames := 1, cells := 0, slots := 0, locals := 22 } (va_Pc [.ref zc, .int (aI x), .int (aI y)] (cx_R (dC, dI) vwCl [(zc, .inr (2, [.ref zd])), (zd, .inl (kI, 40, .inl (cI f)))] [(kI, .int), (kL, .long)])) (vp_Si (fun r => r = bI (decide (cg_ar f x = cg_ar f y)))) 0 0 (fun _ => False) := by
  refine Met.ofW (cc := cX2_sameArgument) (maxL := 3) (ret := (some .boolean)) (by decide) rfl ?_
  intro p e s m args below meth c s₁ B hml hv
  obtain ⟨rfl, hP, hK⟩ := hv
  have hx := B.exec
  have hb := B.bytes
  have hr := B.returns
  have hts := atoms_spec (ws := .code yX2_sameArgument cX2_sameArgument 3 (some .boolean) :: tbw) B.pre
  have hw : ∀ w ∈ tbw, w.before _ s = true := fun w h => hts w (List.mem_cons_of_mem _ h)
  have hown : s.vm.findClass RX2 = some m.cls := findClass_of_methodNamed B.named
  have hP : va_P (dC, dI) vwCl [(zc, .inr (2, [.ref zd])), (zd, .inl (kI, 40, .inl (cI f)))] s.heap := hP
  have hl := lv_entry ([.ref zc, .int (aI x), .int (aI y)]) (n := 3) (Nat.le_of_ble_eq_true rfl)
  rw [lg_entry_eq]
  generalize (lg_sl ([.ref zc, .int (aI x), .int (aI y)]) ++ List.replicate (3 - (lg_sl ([.ref zc, .int (aI x), .int (aI y)])).length) Slot.unset).toArray = ls at hl ⊢
  have hl : lv_has ls 3 [(0, .ref zc), (1, .int (aI x)), (2, .int (aI y))] := hl
  refine lv_iload_n hx hb dX2_sameArgument_0 rfl (lv_at hl 1 rfl) ?_
  refine lv_iconst (v := (-1)) hx hb dX2_sameArgument_1 (by decide) ?_
  refine cx_aeq (x := x) (y := 0) (tgt := 10) hx hb dX2_sameArgument_2 (by decide) (by first | omega | exact hB _ (by omega) | exact Nat.lt_of_lt_of_le (hB _ (by omega)) (by omega)) (by first | omega | exact hB _ (by omega) | exact Nat.lt_of_lt_of_le (hB _ (by omega)) (by omega)) (fun b0 => ?_) (fun b0 => ?_)
  · skip
    refine lv_iload_n hx hb dX2_sameArgument_10 rfl (lv_at hl 1 rfl) ?_
    refine lv_iload_n hx hb dX2_sameArgument_11 rfl (lv_at hl 2 rfl) ?_
    refine cx_ane (x := x) (y := y) (tgt := 19) hx hb dX2_sameArgument_12 (by decide) (by first | omega | exact hB _ (by omega) | exact Nat.lt_of_lt_of_le (hB _ (by omega)) (by omega)) (by first | omega | exact hB _ (by omega) | exact Nat.lt_of_lt_of_le (hB _ (by omega)) (by omega)) (fun b2 => ?_) (fun b2 => ?_)
    · skip
      refine lv_iconst (v := nI 0) hx hb dX2_sameArgument_19 (by decide) ?_
      exact W.zret (v := nI 0) hx hb hr (cx_narB false) (fun t ht hW => ⟨_, rfl, cx_bf (cg_ar_ne (by omega) b2), ht⟩) (fun _ h9 => by cases h9) dX2_sameArgument_20
    refine lv_iconst (v := nI 1) hx hb dX2_sameArgument_15 (by decide) ?_
    refine lv_goto (tgt := 20) hx hb dX2_sameArgument_16 (by decide) ?_
    exact W.zret (v := nI 1) hx hb hr (cx_narB true) (fun t ht hW => ⟨_, rfl, cx_bt (by rw [b2]), ht⟩) (fun _ h9 => by cases h9) dX2_sameArgument_20
  refine lv_iload_n hx hb dX2_sameArgument_5 rfl (lv_at hl 2 rfl) ?_
  refine lv_iconst (v := (-1)) hx hb dX2_sameArgument_6 (by decide) ?_
  refine cx_ane (x := y) (y := 0) (tgt := 21) hx hb dX2_sameArgument_7 (by decide) (by first | omega | exact hB _ (by omega) | exact Nat.lt_of_lt_of_le (hB _ (by omega)) (by omega)) (by first | omega | exact hB _ (by omega) | exact Nat.lt_of_lt_of_le (hB _ (by omega)) (by omega)) (fun b1 => ?_) (fun b1 => ?_)
  · skip
    obtain ⟨x1, rfl⟩ := cx_suc b0
    obtain ⟨y1, rfl⟩ := cx_suc b1
    refine lv_aload_n hx hb dX2_sameArgument_21 rfl (lv_at hl 0 rfl) ?_
    refine lv_iload_n hx hb dX2_sameArgument_22 rfl (lv_at hl 1 rfl) ?_
    refine lv_iload_n hx hb dX2_sameArgument_23 rfl (lv_at hl 2 rfl) ?_
    refine cx_si (va_runV (As := [.int (nI x1), .int (nI y1)]) (rest := []) ⟨hx, hb, hml, hown, hts⟩ (c_X2_joins l dC dI kI kL zc zd f n x1 y1 (by first | assumption | omega | rfl) (by first | assumption | omega | rfl) (by first | assumption | omega | rfl) (by first | assumption | omega | rfl)) (cwV 2 hts gv_X2_30 rfl rfl rfl hdX2_joins ⟨Nat.le_of_ble_eq_true rfl, Nat.le_of_ble_eq_true rfl⟩) (cx_preV (hP.sub (ws' := [(zc, .inr (2, [.ref zd])), (zd, .inl (kI, 40, .inl (cI f)))]) [0, 1] rfl) hK rfl (q0 := 0) rfl) rfl rfl hl.1 rfl (lv_room (Nat.le_of_ble_eq_true rfl)) dX2_sameArgument_24 ⟨Nat.zero_le _, Nat.zero_le _⟩) (fun r hres => ?_)
    subst hres
    exact W.zret (v := bI (decide (f x1 = f y1))) hx hb hr (cx_narB _) (fun t ht hW => ⟨_, rfl, cx_ars, ht⟩) (fun _ h9 => by cases h9) dX2_sameArgument_27
  refine lv_iload_n hx hb dX2_sameArgument_10 rfl (lv_at hl 1 rfl) ?_
  refine lv_iload_n hx hb dX2_sameArgument_11 rfl (lv_at hl 2 rfl) ?_
  refine cx_ane (x := x) (y := y) (tgt := 19) hx hb dX2_sameArgument_12 (by decide) (by first | omega | exact hB _ (by omega) | exact Nat.lt_of_lt_of_le (hB _ (by omega)) (by omega)) (by first | omega | exact hB _ (by omega) | exact Nat.lt_of_lt_of_le (hB _ (by omega)) (by omega)) (fun b2 => ?_) (fun b2 => ?_)
  · skip
    refine lv_iconst (v := nI 0) hx hb dX2_sameArgument_19 (by decide) ?_
    exact W.zret (v := nI 0) hx hb hr (cx_narB false) (fun t ht hW => ⟨_, rfl, cx_bf (cg_ar_ne (by omega) b2), ht⟩) (fun _ h9 => by cases h9) dX2_sameArgument_20
  refine lv_iconst (v := nI 1) hx hb dX2_sameArgument_15 (by decide) ?_
  refine lv_goto (tgt := 20) hx hb dX2_sameArgument_16 (by decide) ?_
  exact W.zret (v := nI 1) hx hb hr (cx_narB true) (fun t ht hW => ⟨_, rfl, cx_bt (by rw [b2]), ht⟩) (fun _ h9 => by cases h9) dX2_sameArgument_20

set_option maxHeartbeats 4000000 in
set_option maxRecDepth 100000 in
theorem c_X2_fits (l : Launch) (dC : Nat → ClassId) (dI : Nat → Nat → Nat) (kI kL : ClassId) (zc : Nat) (zd : Nat) (f : Nat → Nat) (zt : Nat) (zs : Nat) (zf : Nat) (ze : Nat) (n : Nat) (S : Nat → Int32) (F : Nat → Nat) (E : Nat → Nat) (u : Nat) (sy : Int32) (x : Nat) (y : Nat) (qn : n ≤ 40) (hB : ∀ u, u < n → f u < n) (qw : cg_wf (S, F, E) n) (qu : u < n) (qx : x ≤ n) (qy : y ≤ n) : Met l yX2_fits (.code yX2_fits cX2_fits 6 (some .boolean) :: tbw) { frames := 2, cells := 0, slots := 0, locals := 44 } (va_Pc [.ref zc, .ref zt, .int (nI u), .int sy, .int (aI x), .int (aI y)] (cx_R (dC, dI) vwCl [(zc, .inr (2, [.ref zd])), (zd, .inl (kI, 40, .inl (cI f))), (zt, .inr (3, [.ref zs, .ref zf, .ref ze, .int (nI n)])), (zs, .inl (kI, 40, .inl S)), (zf, .inl (kI, 40, .inl (cA F))), (ze, .inl (kI, 40, .inl (cA E)))] [(kI, .int), (kL, .long)])) (vp_Si (fun r => r = bI (decide (S u = sy ∧ cg_ar f (F u) = cg_ar f x ∧ cg_ar f (E u) = cg_ar f y)))) 0 0 (fun _ => False) := by
  refine Met.ofW (cc := cX2_fits) (maxL := 6) (ret := (some .boolean)) (by decide) rfl ?_
  intro p e s m args below meth c s₁ B hml hv
  obtain ⟨rfl, hP, hK⟩ := hv
  have hx := B.exec
  have hb := B.bytes
  have hr := B.returns
  have hts := atoms_spec (ws := .code yX2_fits cX2_fits 6 (some .boolean) :: tbw) B.pre
  have hw : ∀ w ∈ tbw, w.before _ s = true := fun w h => hts w (List.mem_cons_of_mem _ h)
  have hown : s.vm.findClass RX2 = some m.cls := findClass_of_methodNamed B.named
  have hP : va_P (dC, dI) vwCl [(zc, .inr (2, [.ref zd])), (zd, .inl (kI, 40, .inl (cI f))), (zt, .inr (3, [.ref zs, .ref zf, .ref ze, .int (nI n)])), (zs, .inl (kI, 40, .inl S)), (zf, .inl (kI, 40, .inl (cA F))), (ze, .inl (kI, 40, .inl (cA E)))] s.heap := hP
  have hl := lv_entry ([.ref zc, .ref zt, .int (nI u), .int sy, .int (aI x), .int (aI y)]) (n := 6) (Nat.le_of_ble_eq_true rfl)
  rw [lg_entry_eq]
  generalize (lg_sl ([.ref zc, .ref zt, .int (nI u), .int sy, .int (aI x), .int (aI y)]) ++ List.replicate (6 - (lg_sl ([.ref zc, .ref zt, .int (nI u), .int sy, .int (aI x), .int (aI y)])).length) Slot.unset).toArray = ls at hl ⊢
  have hl : lv_has ls 6 [(0, .ref zc), (1, .ref zt), (2, .int (nI u)), (3, .int sy), (4, .int (aI x)), (5, .int (aI y))] := hl
  refine lv_aload_n hx hb dX2_fits_0 rfl (lv_at hl 1 rfl) ?_
  refine va_get (D := (dC, dI)) (ci := 3) (v := .ref zs) (C := RX3) (T := TX3) (N := 4) hx hb hts (tb_c tbX3) hown hK hP 2 rfl rfl 0 (by decide) (hw _ tw_25) (fun _ h9 => h9) rfl dX2_fits_1 ?_
  refine lv_iload_n hx hb dX2_fits_4 rfl (lv_at hl 2 rfl) ?_
  refine cx_iald hx hb hK hP 3 0 rfl rfl (by first | decide | omega) (v := (S u)) (i := u) rfl (by first | omega | exact hB _ (by omega) | exact Nat.lt_of_lt_of_le (hB _ (by omega)) (by omega)) dX2_fits_5 ?_
  refine lv_iload_n hx hb dX2_fits_6 rfl (lv_at hl 3 rfl) ?_
  refine lv_icmp_ne (tgt := 44) hx hb dX2_fits_7 (by decide) (fun b0 => ?_) (fun b0 => ?_)
  · skip
    refine lv_iconst (v := nI 0) hx hb dX2_fits_44 (by decide) ?_
    exact W.zret (v := nI 0) hx hb hr (cx_narB false) (fun t ht hW => ⟨_, rfl, cx_bf (by first | exact fun h => b0 h.1 | exact fun h => of_decide_eq_false b1 h.2.1 | exact fun h => of_decide_eq_false b2 h.2.2), ht⟩) (fun _ h9 => by cases h9) dX2_fits_45
  refine lv_aload_n hx hb dX2_fits_10 rfl (lv_at hl 0 rfl) ?_
  refine lv_aload_n hx hb dX2_fits_11 rfl (lv_at hl 1 rfl) ?_
  refine va_get (D := (dC, dI)) (ci := 3) (v := .ref zf) (C := RX3) (T := TX3) (N := 4) hx hb hts (tb_c tbX3) hown hK hP 2 rfl rfl 1 (by decide) (hw _ tw_29) (fun _ h9 => h9) rfl dX2_fits_12 ?_
  refine lv_iload_n hx hb dX2_fits_15 rfl (lv_at hl 2 rfl) ?_
  refine cx_iald hx hb hK hP 4 0 rfl rfl (by first | decide | omega) (v := aI (F u)) (i := u) rfl (by first | omega | exact hB _ (by omega) | exact Nat.lt_of_lt_of_le (hB _ (by omega)) (by omega)) dX2_fits_16 ?_
  refine lv_iload hx hb dX2_fits_17 (lv_at hl 4 rfl) ?_
  refine cx_si (va_runV (As := [.int (aI (F u)), .int (aI x)]) (rest := []) ⟨hx, hb, hml, hown, hts⟩ (c_X2_sameArgument l dC dI kI kL zc zd f n (F u) x (by first | assumption | omega | rfl) (by first | assumption | omega | rfl) (by have := qw u qu; simp only at this; omega) (by first | assumption | omega | rfl)) (cwV 2 hts gv_X2_23 rfl rfl rfl hdX2_sameArgument ⟨Nat.le_of_ble_eq_true rfl, Nat.le_of_ble_eq_true rfl⟩) (cx_preV (hP.sub (ws' := [(zc, .inr (2, [.ref zd])), (zd, .inl (kI, 40, .inl (cI f)))]) [0, 1] rfl) hK rfl (q0 := 0) rfl) rfl rfl hl.1 rfl (lv_room (Nat.le_of_ble_eq_true rfl)) dX2_fits_19 ⟨Nat.zero_le _, Nat.zero_le _⟩) (fun r hres => ?_)
  subst hres
  refine cx_if0 (tgt := 44) hx hb dX2_fits_22 (by decide) (fun b1 => ?_) (fun b1 => ?_)
  · skip
    refine lv_iconst (v := nI 0) hx hb dX2_fits_44 (by decide) ?_
    exact W.zret (v := nI 0) hx hb hr (cx_narB false) (fun t ht hW => ⟨_, rfl, cx_bf (by first | exact fun h => b0 h.1 | exact fun h => of_decide_eq_false b1 h.2.1 | exact fun h => of_decide_eq_false b2 h.2.2), ht⟩) (fun _ h9 => by cases h9) dX2_fits_45
  refine lv_aload_n hx hb dX2_fits_25 rfl (lv_at hl 0 rfl) ?_
  refine lv_aload_n hx hb dX2_fits_26 rfl (lv_at hl 1 rfl) ?_
  refine va_get (D := (dC, dI)) (ci := 3) (v := .ref ze) (C := RX3) (T := TX3) (N := 4) hx hb hts (tb_c tbX3) hown hK hP 2 rfl rfl 2 (by decide) (hw _ tw_32) (fun _ h9 => h9) rfl dX2_fits_27 ?_
  refine lv_iload_n hx hb dX2_fits_30 rfl (lv_at hl 2 rfl) ?_
  refine cx_iald hx hb hK hP 5 0 rfl rfl (by first | decide | omega) (v := aI (E u)) (i := u) rfl (by first | omega | exact hB _ (by omega) | exact Nat.lt_of_lt_of_le (hB _ (by omega)) (by omega)) dX2_fits_31 ?_
  refine lv_iload hx hb dX2_fits_32 (lv_at hl 5 rfl) ?_
  refine cx_si (va_runV (As := [.int (aI (E u)), .int (aI y)]) (rest := []) ⟨hx, hb, hml, hown, hts⟩ (c_X2_sameArgument l dC dI kI kL zc zd f n (E u) y (by first | assumption | omega | rfl) (by first | assumption | omega | rfl) (by have := qw u qu; simp only at this; omega) (by first | assumption | omega | rfl)) (cwV 2 hts gv_X2_23 rfl rfl rfl hdX2_sameArgument ⟨Nat.le_of_ble_eq_true rfl, Nat.le_of_ble_eq_true rfl⟩) (cx_preV (hP.sub (ws' := [(zc, .inr (2, [.ref zd])), (zd, .inl (kI, 40, .inl (cI f)))]) [0, 1] rfl) hK rfl (q0 := 0) rfl) rfl rfl hl.1 rfl (lv_room (Nat.le_of_ble_eq_true rfl)) dX2_fits_34 ⟨Nat.zero_le _, Nat.zero_le _⟩) (fun r hres => ?_)
  subst hres
  refine cx_if0 (tgt := 44) hx hb dX2_fits_37 (by decide) (fun b2 => ?_) (fun b2 => ?_)
  · skip
    refine lv_iconst (v := nI 0) hx hb dX2_fits_44 (by decide) ?_
    exact W.zret (v := nI 0) hx hb hr (cx_narB false) (fun t ht hW => ⟨_, rfl, cx_bf (by first | exact fun h => b0 h.1 | exact fun h => of_decide_eq_false b1 h.2.1 | exact fun h => of_decide_eq_false b2 h.2.2), ht⟩) (fun _ h9 => by cases h9) dX2_fits_45
  refine lv_iconst (v := nI 1) hx hb dX2_fits_40 (by decide) ?_
  refine lv_goto (tgt := 45) hx hb dX2_fits_41 (by decide) ?_
  exact W.zret (v := nI 1) hx hb hr (cx_narB true) (fun t ht hW => ⟨_, rfl, cx_bt ⟨b0, of_decide_eq_true b1, of_decide_eq_true b2⟩, ht⟩) (fun _ h9 => by cases h9) dX2_fits_45
end
section
set_option maxHeartbeats 4000000 in
set_option maxRecDepth 100000 in
theorem c_X2_congruent (l : Launch) (dC : Nat → ClassId) (dI : Nat → Nat → Nat) (kI kL : ClassId) (zc : Nat) (zd : Nat) (f : Nat → Nat) (zt : Nat) (zs : Nat) (zf : Nat) (ze : Nat) (n : Nat) (S : Nat → Int32) (F : Nat → Nat) (E : Nat → Nat) (i : Nat) (j : Nat) (qn : n ≤ 40) (hB : ∀ u, u < n → f u < n) (qw : cg_wf (S, F, E) n) (qi : i < n) (qj : j < n) : Met l yX2_congruent (.code yX2_congruent cX2_congruent 4 (some .boolean) :: tbw) { frames := 3, cells := 0, slots := 0, locals := 69 } (va_Pc [.ref zc, .ref zt, .int (nI i), .int (nI j)] (cx_R (dC, dI) vwCl [(zc, .inr (2, [.ref zd])), (zd, .inl (kI, 40, .inl (cI f))), (zt, .inr (3, [.ref zs, .ref zf, .ref ze, .int (nI n)])), (zs, .inl (kI, 40, .inl S)), (zf, .inl (kI, 40, .inl (cA F))), (ze, .inl (kI, 40, .inl (cA E)))] [(kI, .int), (kL, .long)])) (vp_Si (fun r => r = bI (decide (cg_lk (S, F, E) f i j)))) 0 0 (fun _ => False) := by
  refine Met.ofW (cc := cX2_congruent) (maxL := 4) (ret := (some .boolean)) (by decide) rfl ?_
  intro p e s m args below meth c s₁ B hml hv
  obtain ⟨rfl, hP, hK⟩ := hv
  have hx := B.exec
  have hb := B.bytes
  have hr := B.returns
  have hts := atoms_spec (ws := .code yX2_congruent cX2_congruent 4 (some .boolean) :: tbw) B.pre
  have hw : ∀ w ∈ tbw, w.before _ s = true := fun w h => hts w (List.mem_cons_of_mem _ h)
  have hown : s.vm.findClass RX2 = some m.cls := findClass_of_methodNamed B.named
  have hP : va_P (dC, dI) vwCl [(zc, .inr (2, [.ref zd])), (zd, .inl (kI, 40, .inl (cI f))), (zt, .inr (3, [.ref zs, .ref zf, .ref ze, .int (nI n)])), (zs, .inl (kI, 40, .inl S)), (zf, .inl (kI, 40, .inl (cA F))), (ze, .inl (kI, 40, .inl (cA E)))] s.heap := hP
  have hl := lv_entry ([.ref zc, .ref zt, .int (nI i), .int (nI j)]) (n := 4) (Nat.le_of_ble_eq_true rfl)
  rw [lg_entry_eq]
  generalize (lg_sl ([.ref zc, .ref zt, .int (nI i), .int (nI j)]) ++ List.replicate (4 - (lg_sl ([.ref zc, .ref zt, .int (nI i), .int (nI j)])).length) Slot.unset).toArray = ls at hl ⊢
  have hl : lv_has ls 4 [(0, .ref zc), (1, .ref zt), (2, .int (nI i)), (3, .int (nI j))] := hl
  refine lv_aload_n hx hb dX2_congruent_0 rfl (lv_at hl 0 rfl) ?_
  refine lv_aload_n hx hb dX2_congruent_1 rfl (lv_at hl 1 rfl) ?_
  refine lv_iload_n hx hb dX2_congruent_2 rfl (lv_at hl 2 rfl) ?_
  refine lv_aload_n hx hb dX2_congruent_3 rfl (lv_at hl 1 rfl) ?_
  refine va_get (D := (dC, dI)) (ci := 3) (v := .ref zs) (C := RX3) (T := TX3) (N := 4) hx hb hts (tb_c tbX3) hown hK hP 2 rfl rfl 0 (by decide) (hw _ tw_25) (fun _ h9 => h9) rfl dX2_congruent_4 ?_
  refine lv_iload_n hx hb dX2_congruent_7 rfl (lv_at hl 3 rfl) ?_
  refine cx_iald hx hb hK hP 3 0 rfl rfl (by first | decide | omega) (v := (S j)) (i := j) rfl (by first | omega | exact hB _ (by omega) | exact Nat.lt_of_lt_of_le (hB _ (by omega)) (by omega)) dX2_congruent_8 ?_
  refine lv_aload_n hx hb dX2_congruent_9 rfl (lv_at hl 1 rfl) ?_
  refine va_get (D := (dC, dI)) (ci := 3) (v := .ref zf) (C := RX3) (T := TX3) (N := 4) hx hb hts (tb_c tbX3) hown hK hP 2 rfl rfl 1 (by decide) (hw _ tw_29) (fun _ h9 => h9) rfl dX2_congruent_10 ?_
  refine lv_iload_n hx hb dX2_congruent_13 rfl (lv_at hl 3 rfl) ?_
  refine cx_iald hx hb hK hP 4 0 rfl rfl (by first | decide | omega) (v := aI (F j)) (i := j) rfl (by first | omega | exact hB _ (by omega) | exact Nat.lt_of_lt_of_le (hB _ (by omega)) (by omega)) dX2_congruent_14 ?_
  refine lv_aload_n hx hb dX2_congruent_15 rfl (lv_at hl 1 rfl) ?_
  refine va_get (D := (dC, dI)) (ci := 3) (v := .ref ze) (C := RX3) (T := TX3) (N := 4) hx hb hts (tb_c tbX3) hown hK hP 2 rfl rfl 2 (by decide) (hw _ tw_32) (fun _ h9 => h9) rfl dX2_congruent_16 ?_
  refine lv_iload_n hx hb dX2_congruent_19 rfl (lv_at hl 3 rfl) ?_
  refine cx_iald hx hb hK hP 5 0 rfl rfl (by first | decide | omega) (v := aI (E j)) (i := j) rfl (by first | omega | exact hB _ (by omega) | exact Nat.lt_of_lt_of_le (hB _ (by omega)) (by omega)) dX2_congruent_20 ?_
  refine cx_si (va_runV (As := [.ref zt, .int (nI i), .int (S j), .int (aI (F j)), .int (aI (E j))]) (rest := []) ⟨hx, hb, hml, hown, hts⟩ (c_X2_fits l dC dI kI kL zc zd f zt zs zf ze n S F E i (S j) (F j) (E j) (by first | assumption | omega | rfl) (by first | assumption | omega | rfl) (by first | assumption | omega | rfl) (by first | assumption | omega | rfl) (by have := qw j qj; simp only at this; omega) (by have := qw j qj; simp only at this; omega)) (cwV 5 hts gv_X2_58 rfl rfl rfl hdX2_fits ⟨Nat.le_of_ble_eq_true rfl, Nat.le_of_ble_eq_true rfl⟩) (cx_preV (hP.sub (ws' := [(zc, .inr (2, [.ref zd])), (zd, .inl (kI, 40, .inl (cI f))), (zt, .inr (3, [.ref zs, .ref zf, .ref ze, .int (nI n)])), (zs, .inl (kI, 40, .inl S)), (zf, .inl (kI, 40, .inl (cA F))), (ze, .inl (kI, 40, .inl (cA E)))]) [0, 1, 2, 3, 4, 5] rfl) hK rfl (q0 := 0) rfl) rfl rfl hl.1 rfl (lv_room (Nat.le_of_ble_eq_true rfl)) dX2_congruent_21 ⟨Nat.zero_le _, Nat.zero_le _⟩) (fun r hres => ?_)
  subst hres
  exact W.zret (v := bI (decide (S i = (S j) ∧ cg_ar f (F i) = cg_ar f (F j) ∧ cg_ar f (E i) = cg_ar f (E j)))) hx hb hr (cx_narB _) (fun t ht hW => ⟨_, rfl, rfl, ht⟩) (fun _ h9 => by cases h9) dX2_congruent_24

set_option maxHeartbeats 4000000 in
set_option maxRecDepth 100000 in
theorem c_X2_merge (l : Launch) (dC : Nat → ClassId) (dI : Nat → Nat → Nat) (kI kL : ClassId) (zc : Nat) (zd : Nat) (f : Nat → Nat) (n : Nat) (i : Nat) (j : Nat) (qn : n ≤ 40) (hB : ∀ u, u < n → f u < n) (qi : i < n) (qj : j < n) (sz : Nat) : Met l yX2_merge (.code yX2_merge cX2_merge 7 none :: tbw) { frames := 1, cells := 0, slots := 0, locals := 21 } (va_Pc [.ref zc, .int (nI i), .int (nI j), .int (nI n)] (cx_M (dC, dI) vwCl [(zc, .inr (2, [.ref zd])), (zd, .inl (kI, 40, .inl (cI f)))] [(kI, .int), (kL, .long)] sz)) (va_Qv (fun (u : Unit) => True) (cx_B (dC, dI) vwCl (va_A [(zc, .inr (2, [.ref zd])), (zd, .inl (kI, 40, .inl (cI f)))] sz) (fun u : Unit => [(zc, .inr (2, [.ref zd])), (zd, .inl (kI, 40, .inl (cI (cg_mg n f i j))))])) (va_A [(zc, .inr (2, [.ref zd])), (zd, .inl (kI, 40, .inl (cI f)))] sz)) 0 0 (va_A [(zc, .inr (2, [.ref zd])), (zd, .inl (kI, 40, .inl (cI f)))] sz) := by
  refine Met.ofW (cc := cX2_merge) (maxL := 7) (ret := none) (by decide) rfl ?_
  intro p e s m args below meth c s₁ B hml hv
  obtain ⟨rfl, hsz, hP, hK, hD0⟩ := hv
  have hx := B.exec
  have hb := B.bytes
  have hr := B.returns
  have hts := atoms_spec (ws := .code yX2_merge cX2_merge 7 none :: tbw) B.pre
  have hw : ∀ w ∈ tbw, w.before _ s = true := fun w h => hts w (List.mem_cons_of_mem _ h)
  have hown : s.vm.findClass RX2 = some m.cls := findClass_of_methodNamed B.named
  subst hsz
  have hD := hD0.self (sz := s.heap.size)
  generalize hAe : va_A [(zc, .inr (2, [.ref zd])), (zd, .inl (kI, 40, .inl (cI f)))] s.heap.size = AA at hD ⊢
  have hA : ∀ q : Nat, s.heap.size ≤ q → AA q := fun q h => by rw [← hAe]; exact Or.inr h
  have hS : va_S AA s.heap s.heap [] := va_S.rf
  have hP : va_P (dC, dI) vwCl [(zc, .inr (2, [.ref zd])), (zd, .inl (kI, 40, .inl (cI f)))] s.heap := hP
  have hl := lv_entry ([.ref zc, .int (nI i), .int (nI j), .int (nI n)]) (n := 7) (Nat.le_of_ble_eq_true rfl)
  rw [lg_entry_eq]
  generalize (lg_sl ([.ref zc, .int (nI i), .int (nI j), .int (nI n)]) ++ List.replicate (7 - (lg_sl ([.ref zc, .int (nI i), .int (nI j), .int (nI n)])).length) Slot.unset).toArray = ls at hl ⊢
  have hl : lv_has ls 7 [(0, .ref zc), (1, .int (nI i)), (2, .int (nI j)), (3, .int (nI n))] := hl
  have e1 := hB i qi
  have e2 := hB j qj
  refine lv_aload_n hx hb dX2_merge_0 rfl (lv_at hl 0 rfl) ?_
  refine va_get (D := (dC, dI)) (ci := 2) (v := .ref zd) (C := RX2) (T := TX2) (N := 1) hx hb hts (tb_c tbX2) hown hK hP 0 rfl rfl 0 (by decide) (hw _ tw_98) (fun _ h9 => h9) rfl dX2_merge_1 ?_
  refine lv_iload_n hx hb dX2_merge_4 rfl (lv_at hl 1 rfl) ?_
  refine cx_iald hx hb hK hP 1 0 rfl rfl (by first | decide | omega) (v := nI (f i)) (i := i) rfl (by first | omega | exact hB _ (by omega) | exact Nat.lt_of_lt_of_le (hB _ (by omega)) (by omega)) dX2_merge_5 ?_
  refine lv_aload_n hx hb dX2_merge_6 rfl (lv_at hl 0 rfl) ?_
  refine va_get (D := (dC, dI)) (ci := 2) (v := .ref zd) (C := RX2) (T := TX2) (N := 1) hx hb hts (tb_c tbX2) hown hK hP 0 rfl rfl 0 (by decide) (hw _ tw_98) (fun _ h9 => h9) rfl dX2_merge_7 ?_
  refine lv_iload_n hx hb dX2_merge_10 rfl (lv_at hl 2 rfl) ?_
  refine cx_iald hx hb hK hP 1 0 rfl rfl (by first | decide | omega) (v := nI (f j)) (i := j) rfl (by first | omega | exact hB _ (by omega) | exact Nat.lt_of_lt_of_le (hB _ (by omega)) (by omega)) dX2_merge_11 ?_
  refine cx_min hx hb (hml.trans hl.1.symm) hown (hw _ tw_172) (hw _ tw_173) (hw _ tw_8) (hw _ tw_174) (Nat.le_of_ble_eq_true rfl) (Nat.le_of_ble_eq_true rfl) (Nat.zero_le _) (Nat.zero_le _) (x := (f i)) (y := (f j)) (by first | omega | exact hB _ (by omega) | exact Nat.lt_of_lt_of_le (hB _ (by omega)) (by omega)) (by first | omega | exact hB _ (by omega) | exact Nat.lt_of_lt_of_le (hB _ (by omega)) (by omega)) dX2_merge_12 ?_
  refine lv_istore hx hb dX2_merge_15 hl (by decide) rfl (fun ls hl => ?_)
  have hl : lv_has ls 7 [(4, .int (nI (min (f i) (f j)))), (0, .ref zc), (1, .int (nI i)), (2, .int (nI j)), (3, .int (nI n))] := hl
  refine lv_aload_n hx hb dX2_merge_17 rfl (lv_at hl 1 rfl) ?_
  refine va_get (D := (dC, dI)) (ci := 2) (v := .ref zd) (C := RX2) (T := TX2) (N := 1) hx hb hts (tb_c tbX2) hown hK hP 0 rfl rfl 0 (by decide) (hw _ tw_98) (fun _ h9 => h9) rfl dX2_merge_18 ?_
  refine lv_iload_n hx hb dX2_merge_21 rfl (lv_at hl 2 rfl) ?_
  refine cx_iald hx hb hK hP 1 0 rfl rfl (by first | decide | omega) (v := nI (f i)) (i := i) rfl (by first | omega | exact hB _ (by omega) | exact Nat.lt_of_lt_of_le (hB _ (by omega)) (by omega)) dX2_merge_22 ?_
  refine lv_aload_n hx hb dX2_merge_23 rfl (lv_at hl 1 rfl) ?_
  refine va_get (D := (dC, dI)) (ci := 2) (v := .ref zd) (C := RX2) (T := TX2) (N := 1) hx hb hts (tb_c tbX2) hown hK hP 0 rfl rfl 0 (by decide) (hw _ tw_98) (fun _ h9 => h9) rfl dX2_merge_24 ?_
  refine lv_iload_n hx hb dX2_merge_27 rfl (lv_at hl 3 rfl) ?_
  refine cx_iald hx hb hK hP 1 0 rfl rfl (by first | decide | omega) (v := nI (f j)) (i := j) rfl (by first | omega | exact hB _ (by omega) | exact Nat.lt_of_lt_of_le (hB _ (by omega)) (by omega)) dX2_merge_28 ?_
  refine cx_max hx hb (hml.trans hl.1.symm) hown (hw _ tw_175) (hw _ tw_176) (hw _ tw_8) (hw _ tw_177) (Nat.le_of_ble_eq_true rfl) (Nat.le_of_ble_eq_true rfl) (Nat.zero_le _) (Nat.zero_le _) (x := (f i)) (y := (f j)) (by first | omega | exact hB _ (by omega) | exact Nat.lt_of_lt_of_le (hB _ (by omega)) (by omega)) (by first | omega | exact hB _ (by omega) | exact Nat.lt_of_lt_of_le (hB _ (by omega)) (by omega)) dX2_merge_29 ?_
  refine lv_istore hx hb dX2_merge_32 hl (by decide) rfl (fun ls hl => ?_)
  have hl : lv_has ls 7 [(5, .int (nI (max (f i) (f j)))), (4, .int (nI (min (f i) (f j)))), (0, .ref zc), (1, .int (nI i)), (2, .int (nI j)), (3, .int (nI n))] := hl
  refine lv_iconst (v := nI 0) hx hb dX2_merge_34 (by decide) ?_
  refine lv_istore hx hb dX2_merge_35 hl (by decide) rfl (fun ls hl => ?_)
  have hl : lv_has ls 7 [(6, .int (nI 0)), (5, .int (nI (max (f i) (f j)))), (4, .int (nI (min (f i) (f j)))), (0, .ref zc), (1, .int (nI i)), (2, .int (nI j)), (3, .int (nI n))] := hl
  refine cx_loop2 (fun (v : Nat) (g : Nat → Nat) (H : Heap) (locs : List Loc) (ls : Array Slot) => lv_has ls 7 [(6, .int (nI v)), (0, .ref zc), (1, .int (nI i)), (2, .int (nI j)), (3, .int (nI n)), (4, .int (nI (min (f i) (f j)))), (5, .int (nI (max (f i) (f j))))] ∧ va_P (dC, dI) vwCl [(zc, .inr (2, [.ref zd])), (zd, .inl (kI, 40, .inl (cI g)))] H ∧ va_D AA [(zc, .inr (2, [.ref zd])), (zd, .inl (kI, 40, .inl (cI g)))] ∧ va_S AA s.heap H locs ∧ (v ≤ n) ∧ (g = cg_mu n f i j v)) (fun v g => n - v) (fun v g H locs ls hI ih1 => ?_) 0 f ⟨lv_sub hl [0, 3, 4, 5, 6, 2, 1] rfl, hP, hD, hS, (by first | assumption | omega | rfl), (cg_mu_0)⟩
  obtain ⟨hl, hP, hD, hS, hv1, hg⟩ := hI
  refine lv_iload hx hb dX2_merge_37 (lv_at hl 0 rfl) ?_
  refine lv_iload_n hx hb dX2_merge_39 rfl (lv_at hl 4 rfl) ?_
  refine cx_ge (x := v) (y := n) (tgt := 70) hx hb dX2_merge_40 (by decide) (by first | omega | exact hB _ (by omega) | exact Nat.lt_of_lt_of_le (hB _ (by omega)) (by omega)) (by first | omega | exact hB _ (by omega) | exact Nat.lt_of_lt_of_le (hB _ (by omega)) (by omega)) (fun b0 => ?_) (fun b0 => ?_)
  · skip
    obtain rfl := cg_mu_e hg b0
    exact W.vret hx hb hr (fun t ht hW => ⟨⟨(), rfl, trivial, by rw [ht]; exact hP, hD⟩, hS.F ht⟩) hS.2.2 dX2_merge_70
  have e3 := cg_mu_at hg
  have e4 := hB v b0
  refine lv_aload_n hx hb dX2_merge_43 rfl (lv_at hl 1 rfl) ?_
  refine va_get (D := (dC, dI)) (ci := 2) (v := .ref zd) (C := RX2) (T := TX2) (N := 1) hx hb hts (tb_c tbX2) hown hK hP 0 rfl rfl 0 (by decide) (hw _ tw_98) (fun _ h9 => h9) rfl dX2_merge_44 ?_
  refine lv_iload hx hb dX2_merge_47 (lv_at hl 0 rfl) ?_
  refine cx_iald hx hb hK hP 1 0 rfl rfl (by first | decide | omega) (v := nI (g v)) (i := v) rfl (by first | omega | exact hB _ (by omega) | exact Nat.lt_of_lt_of_le (hB _ (by omega)) (by omega)) dX2_merge_49 ?_
  refine lv_iload hx hb dX2_merge_50 (lv_at hl 6 rfl) ?_
  refine cx_ne (x := (g v)) (y := (max (f i) (f j))) (tgt := 64) hx hb dX2_merge_52 (by decide) (by first | omega | exact hB _ (by omega) | exact Nat.lt_of_lt_of_le (hB _ (by omega)) (by omega)) (by first | omega | exact hB _ (by omega) | exact Nat.lt_of_lt_of_le (hB _ (by omega)) (by omega)) (fun b1 => ?_) (fun b1 => ?_)
  · skip
    refine lv_iinc (k := 0) (v := nI (v + 1)) hx hb dX2_merge_64 hl rfl cx_inc1 (by decide) rfl (fun ls hl => ?_)
    have hl : lv_has ls 7 [(6, .int (nI (v + 1))), (0, .ref zc), (1, .int (nI i)), (2, .int (nI j)), (3, .int (nI n)), (4, .int (nI (min (f i) (f j)))), (5, .int (nI (max (f i) (f j))))] := hl
    refine lv_goto (tgt := 37) hx hb dX2_merge_67 (by decide) ?_
    exact ih1 (v + 1) g _ _ _ ⟨lv_sub hl [0, 1, 2, 3, 4, 5, 6] rfl, hP, hD, hS, (by first | assumption | omega | rfl), (by first | exact cg_mu_y hg b0 b1 | exact cg_mu_n hg b1)⟩ (by show n - (v + 1) < n - v; omega)
  refine lv_aload_n hx hb dX2_merge_55 rfl (lv_at hl 1 rfl) ?_
  refine va_get (D := (dC, dI)) (ci := 2) (v := .ref zd) (C := RX2) (T := TX2) (N := 1) hx hb hts (tb_c tbX2) hown hK hP 0 rfl rfl 0 (by decide) (hw _ tw_98) (fun _ h9 => h9) rfl dX2_merge_56 ?_
  refine lv_iload hx hb dX2_merge_59 (lv_at hl 0 rfl) ?_
  refine lv_iload hx hb dX2_merge_61 (lv_at hl 5 rfl) ?_
  refine cx_iast hx hb hK hP hD hS 1 0 rfl rfl (by first | decide | omega) (i := v) (cI_u) (by first | omega | exact hB _ (by omega) | exact Nat.lt_of_lt_of_le (hB _ (by omega)) (by omega)) dX2_merge_63 (fun H locs hP hD hS => ?_)
  have hP : va_P (dC, dI) vwCl [(zc, .inr (2, [.ref zd])), (zd, .inl (kI, 40, .inl (cI (wt_u g v (min (f i) (f j))))))] H := hP
  have hD : va_D AA [(zc, .inr (2, [.ref zd])), (zd, .inl (kI, 40, .inl (cI (wt_u g v (min (f i) (f j))))))] := hD
  refine lv_iinc (k := 0) (v := nI (v + 1)) hx hb dX2_merge_64 hl rfl cx_inc1 (by decide) rfl (fun ls hl => ?_)
  have hl : lv_has ls 7 [(6, .int (nI (v + 1))), (0, .ref zc), (1, .int (nI i)), (2, .int (nI j)), (3, .int (nI n)), (4, .int (nI (min (f i) (f j)))), (5, .int (nI (max (f i) (f j))))] := hl
  refine lv_goto (tgt := 37) hx hb dX2_merge_67 (by decide) ?_
  exact ih1 (v + 1) (wt_u g v (min (f i) (f j))) _ _ _ ⟨lv_sub hl [0, 1, 2, 3, 4, 5, 6] rfl, hP, hD, hS, (by first | assumption | omega | rfl), (by first | exact cg_mu_y hg b0 b1 | exact cg_mu_n hg b1)⟩ (by show n - (v + 1) < n - v; omega)

set_option maxHeartbeats 4000000 in
set_option maxRecDepth 100000 in
theorem c_X2_mergeCongruent (l : Launch) (dC : Nat → ClassId) (dI : Nat → Nat → Nat) (kI kL : ClassId) (zc : Nat) (zd : Nat) (f : Nat → Nat) (zt : Nat) (zs : Nat) (zf : Nat) (ze : Nat) (n : Nat) (S : Nat → Int32) (F : Nat → Nat) (E : Nat → Nat) (qn : n ≤ 40) (qo : cg_ok n f) (qw : cg_wf (S, F, E) n) (sz : Nat) : Met l yX2_mergeCongruent (.code yX2_mergeCongruent cX2_mergeCongruent 5 (some .boolean) :: tbw) { frames := 4, cells := 0, slots := 0, locals := 92 } (va_Pc [.ref zc, .ref zt] (cx_M (dC, dI) vwCl [(zc, .inr (2, [.ref zd])), (zd, .inl (kI, 40, .inl (cI f))), (zt, .inr (3, [.ref zs, .ref zf, .ref ze, .int (nI n)])), (zs, .inl (kI, 40, .inl S)), (zf, .inl (kI, 40, .inl (cA F))), (ze, .inl (kI, 40, .inl (cA E)))] [(kI, .int), (kL, .long)] sz)) (va_Qi (fun (r : Int32) (u : Unit) => r = bI ((cg_rd (S, F, E) n f).2)) (cx_B (dC, dI) vwCl (va_A [(zc, .inr (2, [.ref zd])), (zd, .inl (kI, 40, .inl (cI f))), (zt, .inr (3, [.ref zs, .ref zf, .ref ze, .int (nI n)])), (zs, .inl (kI, 40, .inl S)), (zf, .inl (kI, 40, .inl (cA F))), (ze, .inl (kI, 40, .inl (cA E)))] sz) (fun u : Unit => [(zc, .inr (2, [.ref zd])), (zd, .inl (kI, 40, .inl (cI ((cg_rd (S, F, E) n f).1)))), (zt, .inr (3, [.ref zs, .ref zf, .ref ze, .int (nI n)])), (zs, .inl (kI, 40, .inl S)), (zf, .inl (kI, 40, .inl (cA F))), (ze, .inl (kI, 40, .inl (cA E)))])) (va_A [(zc, .inr (2, [.ref zd])), (zd, .inl (kI, 40, .inl (cI f))), (zt, .inr (3, [.ref zs, .ref zf, .ref ze, .int (nI n)])), (zs, .inl (kI, 40, .inl S)), (zf, .inl (kI, 40, .inl (cA F))), (ze, .inl (kI, 40, .inl (cA E)))] sz)) 0 0 (va_A [(zc, .inr (2, [.ref zd])), (zd, .inl (kI, 40, .inl (cI f))), (zt, .inr (3, [.ref zs, .ref zf, .ref ze, .int (nI n)])), (zs, .inl (kI, 40, .inl S)), (zf, .inl (kI, 40, .inl (cA F))), (ze, .inl (kI, 40, .inl (cA E)))] sz) := by
  refine Met.ofW (cc := cX2_mergeCongruent) (maxL := 5) (ret := (some .boolean)) (by decide) rfl ?_
  intro p e s m args below meth c s₁ B hml hv
  obtain ⟨rfl, hsz, hP, hK, hD0⟩ := hv
  have hx := B.exec
  have hb := B.bytes
  have hr := B.returns
  have hts := atoms_spec (ws := .code yX2_mergeCongruent cX2_mergeCongruent 5 (some .boolean) :: tbw) B.pre
  have hw : ∀ w ∈ tbw, w.before _ s = true := fun w h => hts w (List.mem_cons_of_mem _ h)
  have hown : s.vm.findClass RX2 = some m.cls := findClass_of_methodNamed B.named
  subst hsz
  have hD := hD0.self (sz := s.heap.size)
  generalize hAe : va_A [(zc, .inr (2, [.ref zd])), (zd, .inl (kI, 40, .inl (cI f))), (zt, .inr (3, [.ref zs, .ref zf, .ref ze, .int (nI n)])), (zs, .inl (kI, 40, .inl S)), (zf, .inl (kI, 40, .inl (cA F))), (ze, .inl (kI, 40, .inl (cA E)))] s.heap.size = AA at hD ⊢
  have hA : ∀ q : Nat, s.heap.size ≤ q → AA q := fun q h => by rw [← hAe]; exact Or.inr h
  have hS : va_S AA s.heap s.heap [] := va_S.rf
  have hP : va_P (dC, dI) vwCl [(zc, .inr (2, [.ref zd])), (zd, .inl (kI, 40, .inl (cI f))), (zt, .inr (3, [.ref zs, .ref zf, .ref ze, .int (nI n)])), (zs, .inl (kI, 40, .inl S)), (zf, .inl (kI, 40, .inl (cA F))), (ze, .inl (kI, 40, .inl (cA E)))] s.heap := hP
  have hl := lv_entry ([.ref zc, .ref zt]) (n := 5) (Nat.le_of_ble_eq_true rfl)
  rw [lg_entry_eq]
  generalize (lg_sl ([.ref zc, .ref zt]) ++ List.replicate (5 - (lg_sl ([.ref zc, .ref zt])).length) Slot.unset).toArray = ls at hl ⊢
  have hl : lv_has ls 5 [(0, .ref zc), (1, .ref zt)] := hl
  refine lv_iconst (v := nI 0) hx hb dX2_mergeCongruent_0 (by decide) ?_
  refine lv_istore_n hx hb dX2_mergeCongruent_1 rfl hl (by decide) rfl (fun ls hl => ?_)
  have hl : lv_has ls 5 [(2, .int (nI 0)), (0, .ref zc), (1, .ref zt)] := hl
  refine lv_iconst (v := nI 0) hx hb dX2_mergeCongruent_2 (by decide) ?_
  refine lv_istore_n hx hb dX2_mergeCongruent_3 rfl hl (by decide) rfl (fun ls hl => ?_)
  have hl : lv_has ls 5 [(3, .int (nI 0)), (2, .int (nI 0)), (0, .ref zc), (1, .ref zt)] := hl
  refine cx_loop3 (fun (v : Nat) (ch : Bool) (g : Nat → Nat) (H : Heap) (locs : List Loc) (ls : Array Slot) => lv_has ls 5 [(2, .int (bI ch)), (3, .int (nI v)), (0, .ref zc), (1, .ref zt)] ∧ va_P (dC, dI) vwCl [(zc, .inr (2, [.ref zd])), (zd, .inl (kI, 40, .inl (cI g))), (zt, .inr (3, [.ref zs, .ref zf, .ref ze, .int (nI n)])), (zs, .inl (kI, 40, .inl S)), (zf, .inl (kI, 40, .inl (cA F))), (ze, .inl (kI, 40, .inl (cA E)))] H ∧ va_D AA [(zc, .inr (2, [.ref zd])), (zd, .inl (kI, 40, .inl (cI g))), (zt, .inr (3, [.ref zs, .ref zf, .ref ze, .int (nI n)])), (zs, .inl (kI, 40, .inl S)), (zf, .inl (kI, 40, .inl (cA F))), (ze, .inl (kI, 40, .inl (cA E)))] ∧ va_S AA s.heap H locs ∧ (v ≤ n) ∧ ((g, ch) = cg_ou (S, F, E) n (f, false) v)) (fun v ch g => n - v) (fun v ch g H locs ls hI ih1 => ?_) 0 false f ⟨lv_sub hl [1, 0, 2, 3] rfl, hP, hD, hS, (by first | assumption | omega | rfl), (rfl)⟩
  obtain ⟨hl, hP, hD, hS, hv1, hg⟩ := hI
  refine lv_iload_n hx hb dX2_mergeCongruent_4 rfl (lv_at hl 1 rfl) ?_
  refine lv_aload_n hx hb dX2_mergeCongruent_5 rfl (lv_at hl 3 rfl) ?_
  refine va_get (D := (dC, dI)) (ci := 3) (v := .int (nI n)) (C := RX3) (T := TX3) (N := 4) hx hb hts (tb_c tbX3) hown hK hP 2 rfl rfl 3 (by decide) (hw _ tw_36) (fun _ h9 => h9) rfl dX2_mergeCongruent_6 ?_
  refine cx_ge (x := v) (y := n) (tgt := 67) hx hb dX2_mergeCongruent_9 (by decide) (by first | omega | exact hB _ (by omega) | exact Nat.lt_of_lt_of_le (hB _ (by omega)) (by omega)) (by first | omega | exact hB _ (by omega) | exact Nat.lt_of_lt_of_le (hB _ (by omega)) (by omega)) (fun b0 => ?_) (fun b0 => ?_)
  · skip
    have e5 : (g, ch) = cg_rd (S, F, E) n f := by rw [hg, Nat.le_antisymm hv1 b0]; rfl
    obtain rfl := (congrArg Prod.fst e5 : g = (cg_rd (S, F, E) n f).1)
    obtain rfl := (congrArg Prod.snd e5 : ch = (cg_rd (S, F, E) n f).2)
    refine lv_iload_n hx hb dX2_mergeCongruent_67 rfl (lv_at hl 0 rfl) ?_
    exact W.zret (v := bI ((cg_rd (S, F, E) n f).2)) hx hb hr (cx_narB _) (fun t ht hW => ⟨⟨_, (), rfl, rfl, by rw [ht]; exact hP, hD⟩, hS.F ht⟩) hS.2.2 dX2_mergeCongruent_68
  refine lv_iconst (v := nI 0) hx hb dX2_mergeCongruent_12 (by decide) ?_
  refine lv_istore hx hb dX2_mergeCongruent_13 hl (by decide) rfl (fun ls hl => ?_)
  have hl : lv_has ls 5 [(4, .int (nI 0)), (2, .int (bI ch)), (3, .int (nI v)), (0, .ref zc), (1, .ref zt)] := hl
  refine cx_loop3 (fun (q : Nat) (ch2 : Bool) (g2 : Nat → Nat) (H : Heap) (locs : List Loc) (ls : Array Slot) => lv_has ls 5 [(2, .int (bI ch2)), (4, .int (nI q)), (0, .ref zc), (1, .ref zt), (3, .int (nI v))] ∧ va_P (dC, dI) vwCl [(zc, .inr (2, [.ref zd])), (zd, .inl (kI, 40, .inl (cI g2))), (zt, .inr (3, [.ref zs, .ref zf, .ref ze, .int (nI n)])), (zs, .inl (kI, 40, .inl S)), (zf, .inl (kI, 40, .inl (cA F))), (ze, .inl (kI, 40, .inl (cA E)))] H ∧ va_D AA [(zc, .inr (2, [.ref zd])), (zd, .inl (kI, 40, .inl (cI g2))), (zt, .inr (3, [.ref zs, .ref zf, .ref ze, .int (nI n)])), (zs, .inl (kI, 40, .inl S)), (zf, .inl (kI, 40, .inl (cA F))), (ze, .inl (kI, 40, .inl (cA E)))] ∧ va_S AA s.heap H locs ∧ (q ≤ v) ∧ ((g2, ch2) = cg_in (S, F, E) n (cg_ou (S, F, E) n (f, false) v) v q)) (fun q ch2 g2 => v - q) (fun q ch2 g2 H locs ls hI ih2 => ?_) 0 ch g ⟨lv_sub hl [1, 0, 3, 4, 2] rfl, hP, hD, hS, (by first | assumption | omega | rfl), (hg)⟩
  obtain ⟨hl, hP, hD, hS, hq, hg2⟩ := hI
  have ok2 := cg_in_ok qo hg2 b0 (by omega)
  have hB := cg_ok_B ok2
  refine lv_iload hx hb dX2_mergeCongruent_15 (lv_at hl 1 rfl) ?_
  refine lv_iload_n hx hb dX2_mergeCongruent_17 rfl (lv_at hl 4 rfl) ?_
  refine cx_ge (x := q) (y := v) (tgt := 61) hx hb dX2_mergeCongruent_18 (by decide) (by first | omega | exact hB _ (by omega) | exact Nat.lt_of_lt_of_le (hB _ (by omega)) (by omega)) (by first | omega | exact hB _ (by omega) | exact Nat.lt_of_lt_of_le (hB _ (by omega)) (by omega)) (fun b1 => ?_) (fun b1 => ?_)
  · skip
    refine lv_iinc (k := 4) (v := nI (v + 1)) hx hb dX2_mergeCongruent_61 hl rfl cx_inc1 (by decide) rfl (fun ls hl => ?_)
    have hl : lv_has ls 5 [(3, .int (nI (v + 1))), (2, .int (bI ch2)), (4, .int (nI q)), (0, .ref zc), (1, .ref zt)] := hl
    refine lv_goto (tgt := 4) hx hb dX2_mergeCongruent_64 (by decide) ?_
    exact ih1 (v + 1) ch2 g2 _ _ _ ⟨lv_sub hl [1, 0, 3, 4] rfl, hP, hD, hS, (by first | assumption | omega | rfl), (by rw [hg2, Nat.le_antisymm hq b1]; rfl)⟩ (by show n - (v + 1) < n - v; omega)
  refine lv_aload_n hx hb dX2_mergeCongruent_21 rfl (lv_at hl 2 rfl) ?_
  refine lv_iload hx hb dX2_mergeCongruent_22 (lv_at hl 1 rfl) ?_
  refine lv_iload_n hx hb dX2_mergeCongruent_24 rfl (lv_at hl 4 rfl) ?_
  refine cx_si (va_runV (As := [.int (nI q), .int (nI v)]) (rest := []) ⟨hx, hb, hml, hown, hts⟩ (c_X2_joins l dC dI kI kL zc zd g2 n q v (by first | assumption | omega | rfl) (by first | assumption | omega | rfl) (by first | assumption | omega | rfl) (by first | assumption | omega | rfl)) (cwV 2 hts gv_X2_30 rfl rfl rfl hdX2_joins ⟨Nat.le_of_ble_eq_true rfl, Nat.le_of_ble_eq_true rfl⟩) (cx_preV (hP.sub (ws' := [(zc, .inr (2, [.ref zd])), (zd, .inl (kI, 40, .inl (cI g2)))]) [0, 1] rfl) hK rfl (q0 := 0) rfl) rfl rfl hl.1 rfl (lv_room (Nat.le_of_ble_eq_true rfl)) dX2_mergeCongruent_25 ⟨Nat.zero_le _, Nat.zero_le _⟩) (fun r hres => ?_)
  subst hres
  refine cx_if1 (tgt := 55) hx hb dX2_mergeCongruent_28 (by decide) (fun b2 => ?_) (fun b2 => ?_)
  · skip
    refine lv_iinc (k := 1) (v := nI (q + 1)) hx hb dX2_mergeCongruent_55 hl rfl cx_inc1 (by decide) rfl (fun ls hl => ?_)
    have hl : lv_has ls 5 [(4, .int (nI (q + 1))), (2, .int (bI ch2)), (0, .ref zc), (1, .ref zt), (3, .int (nI v))] := hl
    refine lv_goto (tgt := 15) hx hb dX2_mergeCongruent_58 (by decide) ?_
    exact ih2 (q + 1) ch2 g2 _ _ _ ⟨lv_sub hl [1, 0, 2, 3, 4] rfl, hP, hD, hS, (by first | assumption | omega | rfl), (by first | exact cg_in_y hg2 (of_decide_eq_false b2) (of_decide_eq_true b3) | exact cg_in_n hg2 (Or.inl (of_decide_eq_true b2)) | exact cg_in_n hg2 (Or.inr (of_decide_eq_false b3)))⟩ (by show v - (q + 1) < v - q; omega)
  refine lv_aload_n hx hb dX2_mergeCongruent_31 rfl (lv_at hl 2 rfl) ?_
  refine lv_aload_n hx hb dX2_mergeCongruent_32 rfl (lv_at hl 3 rfl) ?_
  refine lv_iload hx hb dX2_mergeCongruent_33 (lv_at hl 1 rfl) ?_
  refine lv_iload_n hx hb dX2_mergeCongruent_35 rfl (lv_at hl 4 rfl) ?_
  refine cx_si (va_runV (As := [.ref zt, .int (nI q), .int (nI v)]) (rest := []) ⟨hx, hb, hml, hown, hts⟩ (c_X2_congruent l dC dI kI kL zc zd g2 zt zs zf ze n S F E q v (by first | assumption | omega | rfl) (by first | assumption | omega | rfl) (by first | assumption | omega | rfl) (by first | assumption | omega | rfl) (by first | assumption | omega | rfl)) (cwV 3 hts gv_X2_54 rfl rfl rfl hdX2_congruent ⟨Nat.le_of_ble_eq_true rfl, Nat.le_of_ble_eq_true rfl⟩) (cx_preV (hP.sub (ws' := [(zc, .inr (2, [.ref zd])), (zd, .inl (kI, 40, .inl (cI g2))), (zt, .inr (3, [.ref zs, .ref zf, .ref ze, .int (nI n)])), (zs, .inl (kI, 40, .inl S)), (zf, .inl (kI, 40, .inl (cA F))), (ze, .inl (kI, 40, .inl (cA E)))]) [0, 1, 2, 3, 4, 5] rfl) hK rfl (q0 := 0) rfl) rfl rfl hl.1 rfl (lv_room (Nat.le_of_ble_eq_true rfl)) dX2_mergeCongruent_36 ⟨Nat.zero_le _, Nat.zero_le _⟩) (fun r hres => ?_)
  subst hres
  refine cx_if0 (tgt := 55) hx hb dX2_mergeCongruent_39 (by decide) (fun b3 => ?_) (fun b3 => ?_)
  · skip
    refine lv_iinc (k := 1) (v := nI (q + 1)) hx hb dX2_mergeCongruent_55 hl rfl cx_inc1 (by decide) rfl (fun ls hl => ?_)
    have hl : lv_has ls 5 [(4, .int (nI (q + 1))), (2, .int (bI ch2)), (0, .ref zc), (1, .ref zt), (3, .int (nI v))] := hl
    refine lv_goto (tgt := 15) hx hb dX2_mergeCongruent_58 (by decide) ?_
    exact ih2 (q + 1) ch2 g2 _ _ _ ⟨lv_sub hl [1, 0, 2, 3, 4] rfl, hP, hD, hS, (by first | assumption | omega | rfl), (by first | exact cg_in_y hg2 (of_decide_eq_false b2) (of_decide_eq_true b3) | exact cg_in_n hg2 (Or.inl (of_decide_eq_true b2)) | exact cg_in_n hg2 (Or.inr (of_decide_eq_false b3)))⟩ (by show v - (q + 1) < v - q; omega)
  refine lv_aload_n hx hb dX2_mergeCongruent_42 rfl (lv_at hl 2 rfl) ?_
  refine lv_iload hx hb dX2_mergeCongruent_43 (lv_at hl 1 rfl) ?_
  refine lv_iload_n hx hb dX2_mergeCongruent_45 rfl (lv_at hl 4 rfl) ?_
  refine lv_aload_n hx hb dX2_mergeCongruent_46 rfl (lv_at hl 3 rfl) ?_
  refine va_get (D := (dC, dI)) (ci := 3) (v := .int (nI n)) (C := RX3) (T := TX3) (N := 4) hx hb hts (tb_c tbX3) hown hK hP 2 rfl rfl 3 (by decide) (hw _ tw_36) (fun _ h9 => h9) rfl dX2_mergeCongruent_47 ?_
  refine cx_mv (wc := [(zc, .inr (2, [.ref zd])), (zd, .inl (kI, 40, .inl (cI g2)))]) (wr := [(zt, .inr (3, [.ref zs, .ref zf, .ref ze, .int (nI n)])), (zs, .inl (kI, 40, .inl S)), (zf, .inl (kI, 40, .inl (cA F))), (ze, .inl (kI, 40, .inl (cA E)))]) hP hD hS hA [0, 1] [2, 3, 4, 5] rfl rfl (by decide) (by decide) (va_runV (As := [.int (nI q), .int (nI v), .int (nI n)]) (rest := []) ⟨hx, hb, hml, hown, hts⟩ (c_X2_merge l dC dI kI kL zc zd g2 n q v (by first | assumption | omega | rfl) (by first | assumption | omega | rfl) (by first | assumption | omega | rfl) (by first | assumption | omega | rfl) _) (cwV 3 hts gv_X2_46 rfl rfl rfl hdX2_merge ⟨Nat.le_of_ble_eq_true rfl, Nat.le_of_ble_eq_true rfl⟩) (cx_mreV (hP.sub (ws' := [(zc, .inr (2, [.ref zd])), (zd, .inl (kI, 40, .inl (cI g2)))]) [0, 1] rfl) hK (hD.sub (ws' := [(zc, .inr (2, [.ref zd])), (zd, .inl (kI, 40, .inl (cI g2)))]) [0, 1] (by decide) rfl) rfl (q0 := 0) rfl) rfl rfl hl.1 rfl (lv_room (Nat.le_of_ble_eq_true rfl)) dX2_mergeCongruent_50 ⟨Nat.zero_le _, Nat.zero_le _⟩) (fun u50 H locs hres hP hD hS => ?_)
  have hP : va_P (dC, dI) vwCl [(zc, .inr (2, [.ref zd])), (zd, .inl (kI, 40, .inl (cI (cg_mg n g2 q v)))), (zt, .inr (3, [.ref zs, .ref zf, .ref ze, .int (nI n)])), (zs, .inl (kI, 40, .inl S)), (zf, .inl (kI, 40, .inl (cA F))), (ze, .inl (kI, 40, .inl (cA E)))] H := hP.sub (ws' := [(zc, .inr (2, [.ref zd])), (zd, .inl (kI, 40, .inl (cI (cg_mg n g2 q v)))), (zt, .inr (3, [.ref zs, .ref zf, .ref ze, .int (nI n)])), (zs, .inl (kI, 40, .inl S)), (zf, .inl (kI, 40, .inl (cA F))), (ze, .inl (kI, 40, .inl (cA E)))]) [4, 5, 0, 1, 2, 3] rfl
  have hD : va_D AA [(zc, .inr (2, [.ref zd])), (zd, .inl (kI, 40, .inl (cI (cg_mg n g2 q v)))), (zt, .inr (3, [.ref zs, .ref zf, .ref ze, .int (nI n)])), (zs, .inl (kI, 40, .inl S)), (zf, .inl (kI, 40, .inl (cA F))), (ze, .inl (kI, 40, .inl (cA E)))] := hD.sub (ws' := [(zc, .inr (2, [.ref zd])), (zd, .inl (kI, 40, .inl (cI (cg_mg n g2 q v)))), (zt, .inr (3, [.ref zs, .ref zf, .ref ze, .int (nI n)])), (zs, .inl (kI, 40, .inl S)), (zf, .inl (kI, 40, .inl (cA F))), (ze, .inl (kI, 40, .inl (cA E)))]) [4, 5, 0, 1, 2, 3] (by decide) rfl
  refine lv_iconst (v := nI 1) hx hb dX2_mergeCongruent_53 (by decide) ?_
  refine lv_istore_n hx hb dX2_mergeCongruent_54 rfl hl (by decide) rfl (fun ls hl => ?_)
  have hl : lv_has ls 5 [(2, .int (nI 1)), (4, .int (nI q)), (0, .ref zc), (1, .ref zt), (3, .int (nI v))] := hl
  refine lv_iinc (k := 1) (v := nI (q + 1)) hx hb dX2_mergeCongruent_55 hl rfl cx_inc1 (by decide) rfl (fun ls hl => ?_)
  have hl : lv_has ls 5 [(4, .int (nI (q + 1))), (2, .int (nI 1)), (0, .ref zc), (1, .ref zt), (3, .int (nI v))] := hl
  refine lv_goto (tgt := 15) hx hb dX2_mergeCongruent_58 (by decide) ?_
  exact ih2 (q + 1) true (cg_mg n g2 q v) _ _ _ ⟨lv_sub hl [1, 0, 2, 3, 4] rfl, hP, hD, hS, (by first | assumption | omega | rfl), (by first | exact cg_in_y hg2 (of_decide_eq_false b2) (of_decide_eq_true b3) | exact cg_in_n hg2 (Or.inl (of_decide_eq_true b2)) | exact cg_in_n hg2 (Or.inr (of_decide_eq_false b3)))⟩ (by show v - (q + 1) < v - q; omega)

set_option maxHeartbeats 4000000 in
set_option maxRecDepth 100000 in
theorem c_X2_settle (l : Launch) (dC : Nat → ClassId) (dI : Nat → Nat → Nat) (kI kL : ClassId) (zc : Nat) (zd : Nat) (f : Nat → Nat) (zt : Nat) (zs : Nat) (zf : Nat) (ze : Nat) (n : Nat) (S : Nat → Int32) (F : Nat → Nat) (E : Nat → Nat) (zp : Nat) (zl : Nat) (zr : Nat) (k : Nat) (mx : Nat) (lf : Nat → Nat) (rt : Nat → Nat) (x : Int32) (qn : n ≤ 40) (qw : cg_wf (S, F, E) n) (qk : k ≤ 24) (qm : k ≤ mx) (qmx : mx < 2 ^ 31) (qe : cg_we n lf rt k) (sz : Nat) : Met l yX2_settle (.code yX2_settle cX2_settle 6 none :: tbw) { frames := 5, cells := 0, slots := 0, locals := 116 } (va_Pc [.ref zc, .ref zt, .ref zp, .int x] (cx_M (dC, dI) vwCl [(zc, .inr (2, [.ref zd])), (zd, .inl (kI, 40, .inl (cI f))), (zt, .inr (3, [.ref zs, .ref zf, .ref ze, .int (nI n)])), (zs, .inl (kI, 40, .inl S)), (zf, .inl (kI, 40, .inl (cA F))), (ze, .inl (kI, 40, .inl (cA E))), (zp, .inr (1, [.ref zl, .ref zr, .int (nI k)])), (zl, .inl (kI, mx, .inl (cI lf))), (zr, .inl (kI, mx, .inl (cI rt)))] [(kI, .int), (kL, .long)] sz)) (va_Qv (fun (u : Nat → Nat) => ∀ z, z < n → u z = cg_lab (S, F, E) n lf rt (bt x) k z) (cx_B (dC, dI) vwCl (va_A [(zc, .inr (2, [.ref zd])), (zd, .inl (kI, 40, .inl (cI f))), (zt, .inr (3, [.ref zs, .ref zf, .ref ze, .int (nI n)])), (zs, .inl (kI, 40, .inl S)), (zf, .inl (kI, 40, .inl (cA F))), (ze, .inl (kI, 40, .inl (cA E))), (zp, .inr (1, [.ref zl, .ref zr, .int (nI k)])), (zl, .inl (kI, mx, .inl (cI lf))), (zr, .inl (kI, mx, .inl (cI rt)))] sz) (fun u : Nat → Nat => [(zc, .inr (2, [.ref zd])), (zd, .inl (kI, 40, .inl (cI u))), (zt, .inr (3, [.ref zs, .ref zf, .ref ze, .int (nI n)])), (zs, .inl (kI, 40, .inl S)), (zf, .inl (kI, 40, .inl (cA F))), (ze, .inl (kI, 40, .inl (cA E))), (zp, .inr (1, [.ref zl, .ref zr, .int (nI k)])), (zl, .inl (kI, mx, .inl (cI lf))), (zr, .inl (kI, mx, .inl (cI rt)))])) (va_A [(zc, .inr (2, [.ref zd])), (zd, .inl (kI, 40, .inl (cI f))), (zt, .inr (3, [.ref zs, .ref zf, .ref ze, .int (nI n)])), (zs, .inl (kI, 40, .inl S)), (zf, .inl (kI, 40, .inl (cA F))), (ze, .inl (kI, 40, .inl (cA E))), (zp, .inr (1, [.ref zl, .ref zr, .int (nI k)])), (zl, .inl (kI, mx, .inl (cI lf))), (zr, .inl (kI, mx, .inl (cI rt)))] sz)) 0 0 (va_A [(zc, .inr (2, [.ref zd])), (zd, .inl (kI, 40, .inl (cI f))), (zt, .inr (3, [.ref zs, .ref zf, .ref ze, .int (nI n)])), (zs, .inl (kI, 40, .inl S)), (zf, .inl (kI, 40, .inl (cA F))), (ze, .inl (kI, 40, .inl (cA E))), (zp, .inr (1, [.ref zl, .ref zr, .int (nI k)])), (zl, .inl (kI, mx, .inl (cI lf))), (zr, .inl (kI, mx, .inl (cI rt)))] sz) := by
  refine Met.ofW (cc := cX2_settle) (maxL := 6) (ret := none) (by decide) rfl ?_
  intro p e s m args below meth c s₁ B hml hv
  obtain ⟨rfl, hsz, hP, hK, hD0⟩ := hv
  have hx := B.exec
  have hb := B.bytes
  have hr := B.returns
  have hts := atoms_spec (ws := .code yX2_settle cX2_settle 6 none :: tbw) B.pre
  have hw : ∀ w ∈ tbw, w.before _ s = true := fun w h => hts w (List.mem_cons_of_mem _ h)
  have hown : s.vm.findClass RX2 = some m.cls := findClass_of_methodNamed B.named
  subst hsz
  have hD := hD0.self (sz := s.heap.size)
  generalize hAe : va_A [(zc, .inr (2, [.ref zd])), (zd, .inl (kI, 40, .inl (cI f))), (zt, .inr (3, [.ref zs, .ref zf, .ref ze, .int (nI n)])), (zs, .inl (kI, 40, .inl S)), (zf, .inl (kI, 40, .inl (cA F))), (ze, .inl (kI, 40, .inl (cA E))), (zp, .inr (1, [.ref zl, .ref zr, .int (nI k)])), (zl, .inl (kI, mx, .inl (cI lf))), (zr, .inl (kI, mx, .inl (cI rt)))] s.heap.size = AA at hD ⊢
  have hA : ∀ q : Nat, s.heap.size ≤ q → AA q := fun q h => by rw [← hAe]; exact Or.inr h
  have hS : va_S AA s.heap s.heap [] := va_S.rf
  have hP : va_P (dC, dI) vwCl [(zc, .inr (2, [.ref zd])), (zd, .inl (kI, 40, .inl (cI f))), (zt, .inr (3, [.ref zs, .ref zf, .ref ze, .int (nI n)])), (zs, .inl (kI, 40, .inl S)), (zf, .inl (kI, 40, .inl (cA F))), (ze, .inl (kI, 40, .inl (cA E))), (zp, .inr (1, [.ref zl, .ref zr, .int (nI k)])), (zl, .inl (kI, mx, .inl (cI lf))), (zr, .inl (kI, mx, .inl (cI rt)))] s.heap := hP
  have hl := lv_entry ([.ref zc, .ref zt, .ref zp, .int x]) (n := 6) (Nat.le_of_ble_eq_true rfl)
  rw [lg_entry_eq]
  generalize (lg_sl ([.ref zc, .ref zt, .ref zp, .int x]) ++ List.replicate (6 - (lg_sl ([.ref zc, .ref zt, .ref zp, .int x])).length) Slot.unset).toArray = ls at hl ⊢
  have hl : lv_has ls 6 [(0, .ref zc), (1, .ref zt), (2, .ref zp), (3, .int x)] := hl
  refine lv_iconst (v := nI 0) hx hb dX2_settle_0 (by decide) ?_
  refine lv_istore hx hb dX2_settle_1 hl (by decide) rfl (fun ls hl => ?_)
  have hl : lv_has ls 6 [(4, .int (nI 0)), (0, .ref zc), (1, .ref zt), (2, .ref zp), (3, .int x)] := hl
  refine cx_loop2 (fun (v : Nat) (g : Nat → Nat) (H : Heap) (locs : List Loc) (ls : Array Slot) => lv_has ls 6 [(4, .int (nI v)), (0, .ref zc), (1, .ref zt), (2, .ref zp), (3, .int x)] ∧ va_P (dC, dI) vwCl [(zc, .inr (2, [.ref zd])), (zd, .inl (kI, 40, .inl (cI g))), (zt, .inr (3, [.ref zs, .ref zf, .ref ze, .int (nI n)])), (zs, .inl (kI, 40, .inl S)), (zf, .inl (kI, 40, .inl (cA F))), (ze, .inl (kI, 40, .inl (cA E))), (zp, .inr (1, [.ref zl, .ref zr, .int (nI k)])), (zl, .inl (kI, mx, .inl (cI lf))), (zr, .inl (kI, mx, .inl (cI rt)))] H ∧ va_D AA [(zc, .inr (2, [.ref zd])), (zd, .inl (kI, 40, .inl (cI g))), (zt, .inr (3, [.ref zs, .ref zf, .ref ze, .int (nI n)])), (zs, .inl (kI, 40, .inl S)), (zf, .inl (kI, 40, .inl (cA F))), (ze, .inl (kI, 40, .inl (cA E))), (zp, .inr (1, [.ref zl, .ref zr, .int (nI k)])), (zl, .inl (kI, mx, .inl (cI lf))), (zr, .inl (kI, mx, .inl (cI rt)))] ∧ va_S AA s.heap H locs ∧ (v ≤ n) ∧ (∀ u, u < v → g u = u)) (fun v g => n - v) (fun v g H locs ls hI ih1 => ?_) 0 f ⟨lv_sub hl [0, 1, 2, 3, 4] rfl, hP, hD, hS, (by first | assumption | omega | rfl), (fun u h => absurd h (Nat.not_lt_zero u))⟩
  obtain ⟨hl, hP, hD, hS, hv1, hg⟩ := hI
  refine lv_iload hx hb dX2_settle_3 (lv_at hl 0 rfl) ?_
  refine lv_aload_n hx hb dX2_settle_5 rfl (lv_at hl 2 rfl) ?_
  refine va_get (D := (dC, dI)) (ci := 3) (v := .int (nI n)) (C := RX3) (T := TX3) (N := 4) hx hb hts (tb_c tbX3) hown hK hP 2 rfl rfl 3 (by decide) (hw _ tw_36) (fun _ h9 => h9) rfl dX2_settle_6 ?_
  refine cx_ge (x := v) (y := n) (tgt := 27) hx hb dX2_settle_9 (by decide) (by first | omega | exact hB _ (by omega) | exact Nat.lt_of_lt_of_le (hB _ (by omega)) (by omega)) (by first | omega | exact hB _ (by omega) | exact Nat.lt_of_lt_of_le (hB _ (by omega)) (by omega)) (fun b0 => ?_) (fun b0 => ?_)
  · skip
    refine lv_iconst (v := nI 0) hx hb dX2_settle_27 (by decide) ?_
    refine lv_istore hx hb dX2_settle_28 hl (by decide) rfl (fun ls hl => ?_)
    have hl : lv_has ls 6 [(4, .int (nI 0)), (0, .ref zc), (1, .ref zt), (2, .ref zp), (3, .int x)] := hl
    refine cx_loop2 (fun (q : Nat) (g2 : Nat → Nat) (H : Heap) (locs : List Loc) (ls : Array Slot) => lv_has ls 6 [(4, .int (nI q)), (0, .ref zc), (1, .ref zt), (2, .ref zp), (3, .int x)] ∧ va_P (dC, dI) vwCl [(zc, .inr (2, [.ref zd])), (zd, .inl (kI, 40, .inl (cI g2))), (zt, .inr (3, [.ref zs, .ref zf, .ref ze, .int (nI n)])), (zs, .inl (kI, 40, .inl S)), (zf, .inl (kI, 40, .inl (cA F))), (ze, .inl (kI, 40, .inl (cA E))), (zp, .inr (1, [.ref zl, .ref zr, .int (nI k)])), (zl, .inl (kI, mx, .inl (cI lf))), (zr, .inl (kI, mx, .inl (cI rt)))] H ∧ va_D AA [(zc, .inr (2, [.ref zd])), (zd, .inl (kI, 40, .inl (cI g2))), (zt, .inr (3, [.ref zs, .ref zf, .ref ze, .int (nI n)])), (zs, .inl (kI, 40, .inl S)), (zf, .inl (kI, 40, .inl (cA F))), (ze, .inl (kI, 40, .inl (cA E))), (zp, .inr (1, [.ref zl, .ref zr, .int (nI k)])), (zl, .inl (kI, mx, .inl (cI lf))), (zr, .inl (kI, mx, .inl (cI rt)))] ∧ va_S AA s.heap H locs ∧ (q ≤ k) ∧ (∀ u, u < n → g2 u = cg_eq n lf rt (bt x) q u)) (fun q g2 => k - q) (fun q g2 H locs ls hI ih2 => ?_) 0 g ⟨lv_sub hl [0, 1, 2, 3, 4] rfl, hP, hD, hS, (by first | assumption | omega | rfl), (fun u h => hg u (by omega))⟩
    obtain ⟨hl, hP, hD, hS, hq, hg2⟩ := hI
    have hB := cg_eq_B hg2 qe hq
    refine lv_iload hx hb dX2_settle_30 (lv_at hl 0 rfl) ?_
    refine lv_aload_n hx hb dX2_settle_32 rfl (lv_at hl 3 rfl) ?_
    refine va_get (D := (dC, dI)) (ci := 1) (v := .int (nI k)) (C := RX1) (T := TX1) (N := 3) hx hb hts (tb_c tbX1) hown hK hP 6 rfl rfl 2 (by decide) (hw _ tw_61) (fun _ h9 => h9) rfl dX2_settle_33 ?_
    refine cx_ge (x := q) (y := k) (tgt := 76) hx hb dX2_settle_36 (by decide) (by first | omega | exact hB _ (by omega) | exact Nat.lt_of_lt_of_le (hB _ (by omega)) (by omega)) (by first | omega | exact hB _ (by omega) | exact Nat.lt_of_lt_of_le (hB _ (by omega)) (by omega)) (fun b1 => ?_) (fun b1 => ?_)
    · skip
      refine lv_iconst (v := nI 1) hx hb dX2_settle_76 (by decide) ?_
      refine lv_istore hx hb dX2_settle_77 hl (by decide) rfl (fun ls hl => ?_)
      have hl : lv_has ls 6 [(4, .int (nI 1)), (0, .ref zc), (1, .ref zt), (2, .ref zp), (3, .int x)] := hl
      refine lv_iconst (v := nI 0) hx hb dX2_settle_79 (by decide) ?_
      refine lv_istore hx hb dX2_settle_80 hl (by decide) rfl (fun ls hl => ?_)
      have hl : lv_has ls 6 [(5, .int (nI 0)), (4, .int (nI 1)), (0, .ref zc), (1, .ref zt), (2, .ref zp), (3, .int x)] := hl
      refine cx_loop3 (fun (r9 : Nat) (ch : Bool) (g3 : Nat → Nat) (H : Heap) (locs : List Loc) (ls : Array Slot) => lv_has ls 6 [(4, .int (bI ch)), (5, .int (nI r9)), (0, .ref zc), (1, .ref zt), (2, .ref zp), (3, .int x)] ∧ va_P (dC, dI) vwCl [(zc, .inr (2, [.ref zd])), (zd, .inl (kI, 40, .inl (cI g3))), (zt, .inr (3, [.ref zs, .ref zf, .ref ze, .int (nI n)])), (zs, .inl (kI, 40, .inl S)), (zf, .inl (kI, 40, .inl (cA F))), (ze, .inl (kI, 40, .inl (cA E))), (zp, .inr (1, [.ref zl, .ref zr, .int (nI k)])), (zl, .inl (kI, mx, .inl (cI lf))), (zr, .inl (kI, mx, .inl (cI rt)))] H ∧ va_D AA [(zc, .inr (2, [.ref zd])), (zd, .inl (kI, 40, .inl (cI g3))), (zt, .inr (3, [.ref zs, .ref zf, .ref ze, .int (nI n)])), (zs, .inl (kI, 40, .inl S)), (zf, .inl (kI, 40, .inl (cA F))), (ze, .inl (kI, 40, .inl (cA E))), (zp, .inr (1, [.ref zl, .ref zr, .int (nI k)])), (zl, .inl (kI, mx, .inl (cI lf))), (zr, .inl (kI, mx, .inl (cI rt)))] ∧ va_S AA s.heap H locs ∧ (r9 ≤ n) ∧ (∀ u, u < n → g3 u = cg_it (S, F, E) n (cg_eq n lf rt (bt x) k) r9 u) ∧ (ch = true ∨ cg_fx (S, F, E) n (cg_it (S, F, E) n (cg_eq n lf rt (bt x) k) r9))) (fun r9 ch g3 => n - r9) (fun r9 ch g3 H locs ls hI ih3 => ?_) 0 true g2 ⟨lv_sub hl [1, 0, 2, 3, 4, 5] rfl, hP, hD, hS, (by first | assumption | omega | rfl), (by rw [← Nat.le_antisymm hq b1]; exact hg2), (Or.inl rfl)⟩
      obtain ⟨hl, hP, hD, hS, hr9, hg3, hch⟩ := hI
      refine lv_iload hx hb dX2_settle_82 (lv_at hl 1 rfl) ?_
      refine lv_aload_n hx hb dX2_settle_84 rfl (lv_at hl 3 rfl) ?_
      refine va_get (D := (dC, dI)) (ci := 3) (v := .int (nI n)) (C := RX3) (T := TX3) (N := 4) hx hb hts (tb_c tbX3) hown hK hP 2 rfl rfl 3 (by decide) (hw _ tw_36) (fun _ h9 => h9) rfl dX2_settle_85 ?_
      refine cx_ge (x := r9) (y := n) (tgt := 109) hx hb dX2_settle_88 (by decide) (by first | omega | exact hB _ (by omega) | exact Nat.lt_of_lt_of_le (hB _ (by omega)) (by omega)) (by first | omega | exact hB _ (by omega) | exact Nat.lt_of_lt_of_le (hB _ (by omega)) (by omega)) (fun b3 => ?_) (fun b3 => ?_)
      · skip
        exact W.vret hx hb hr (fun t ht hW => ⟨⟨g3, rfl, cg_re qe hg3 hch (by first | exact Or.inl b3 | exact Or.inr b4), by rw [ht]; exact hP, hD⟩, hS.F ht⟩) hS.2.2 dX2_settle_109
      refine lv_iload hx hb dX2_settle_91 (lv_at hl 0 rfl) ?_
      refine cx_if0 (tgt := 109) hx hb dX2_settle_93 (by decide) (fun b4 => ?_) (fun b4 => ?_)
      · skip
        exact W.vret hx hb hr (fun t ht hW => ⟨⟨g3, rfl, cg_re qe hg3 hch (by first | exact Or.inl b3 | exact Or.inr b4), by rw [ht]; exact hP, hD⟩, hS.F ht⟩) hS.2.2 dX2_settle_109
      refine lv_aload_n hx hb dX2_settle_96 rfl (lv_at hl 2 rfl) ?_
      refine lv_aload_n hx hb dX2_settle_97 rfl (lv_at hl 3 rfl) ?_
      refine cx_mi (wc := [(zc, .inr (2, [.ref zd])), (zd, .inl (kI, 40, .inl (cI g3))), (zt, .inr (3, [.ref zs, .ref zf, .ref ze, .int (nI n)])), (zs, .inl (kI, 40, .inl S)), (zf, .inl (kI, 40, .inl (cA F))), (ze, .inl (kI, 40, .inl (cA E)))]) (wr := [(zp, .inr (1, [.ref zl, .ref zr, .int (nI k)])), (zl, .inl (kI, mx, .inl (cI lf))), (zr, .inl (kI, mx, .inl (cI rt)))]) hP hD hS hA [0, 1, 2, 3, 4, 5] [6, 7, 8] rfl rfl (by decide) (by decide) (va_runV (As := [.ref zt]) (rest := []) ⟨hx, hb, hml, hown, hts⟩ (c_X2_mergeCongruent l dC dI kI kL zc zd g3 zt zs zf ze n S F E (by first | assumption | omega | rfl) (cg_ok_ag hg3 (cg_it_ok (cg_eq_ok k qe) r9)) (by first | assumption | omega | rfl) _) (cwV 1 hts gv_X2_50 rfl rfl rfl hdX2_mergeCongruent ⟨Nat.le_of_ble_eq_true rfl, Nat.le_of_ble_eq_true rfl⟩) (cx_mreV (hP.sub (ws' := [(zc, .inr (2, [.ref zd])), (zd, .inl (kI, 40, .inl (cI g3))), (zt, .inr (3, [.ref zs, .ref zf, .ref ze, .int (nI n)])), (zs, .inl (kI, 40, .inl S)), (zf, .inl (kI, 40, .inl (cA F))), (ze, .inl (kI, 40, .inl (cA E)))]) [0, 1, 2, 3, 4, 5] rfl) hK (hD.sub (ws' := [(zc, .inr (2, [.ref zd])), (zd, .inl (kI, 40, .inl (cI g3))), (zt, .inr (3, [.ref zs, .ref zf, .ref ze, .int (nI n)])), (zs, .inl (kI, 40, .inl S)), (zf, .inl (kI, 40, .inl (cA F))), (ze, .inl (kI, 40, .inl (cA E)))]) [0, 1, 2, 3, 4, 5] (by decide) rfl) rfl (q0 := 0) rfl) rfl rfl hl.1 rfl (lv_room (Nat.le_of_ble_eq_true rfl)) dX2_settle_98 ⟨Nat.zero_le _, Nat.zero_le _⟩) (fun r u98 H locs hres hP hD hS => ?_)
      subst hres
      have hP : va_P (dC, dI) vwCl [(zc, .inr (2, [.ref zd])), (zd, .inl (kI, 40, .inl (cI ((cg_rd (S, F, E) n g3).1)))), (zt, .inr (3, [.ref zs, .ref zf, .ref ze, .int (nI n)])), (zs, .inl (kI, 40, .inl S)), (zf, .inl (kI, 40, .inl (cA F))), (ze, .inl (kI, 40, .inl (cA E))), (zp, .inr (1, [.ref zl, .ref zr, .int (nI k)])), (zl, .inl (kI, mx, .inl (cI lf))), (zr, .inl (kI, mx, .inl (cI rt)))] H := hP.sub (ws' := [(zc, .inr (2, [.ref zd])), (zd, .inl (kI, 40, .inl (cI ((cg_rd (S, F, E) n g3).1)))), (zt, .inr (3, [.ref zs, .ref zf, .ref ze, .int (nI n)])), (zs, .inl (kI, 40, .inl S)), (zf, .inl (kI, 40, .inl (cA F))), (ze, .inl (kI, 40, .inl (cA E))), (zp, .inr (1, [.ref zl, .ref zr, .int (nI k)])), (zl, .inl (kI, mx, .inl (cI lf))), (zr, .inl (kI, mx, .inl (cI rt)))]) [3, 4, 5, 6, 7, 8, 0, 1, 2] rfl
      have hD : va_D AA [(zc, .inr (2, [.ref zd])), (zd, .inl (kI, 40, .inl (cI ((cg_rd (S, F, E) n g3).1)))), (zt, .inr (3, [.ref zs, .ref zf, .ref ze, .int (nI n)])), (zs, .inl (kI, 40, .inl S)), (zf, .inl (kI, 40, .inl (cA F))), (ze, .inl (kI, 40, .inl (cA E))), (zp, .inr (1, [.ref zl, .ref zr, .int (nI k)])), (zl, .inl (kI, mx, .inl (cI lf))), (zr, .inl (kI, mx, .inl (cI rt)))] := hD.sub (ws' := [(zc, .inr (2, [.ref zd])), (zd, .inl (kI, 40, .inl (cI ((cg_rd (S, F, E) n g3).1)))), (zt, .inr (3, [.ref zs, .ref zf, .ref ze, .int (nI n)])), (zs, .inl (kI, 40, .inl S)), (zf, .inl (kI, 40, .inl (cA F))), (ze, .inl (kI, 40, .inl (cA E))), (zp, .inr (1, [.ref zl, .ref zr, .int (nI k)])), (zl, .inl (kI, mx, .inl (cI lf))), (zr, .inl (kI, mx, .inl (cI rt)))]) [3, 4, 5, 6, 7, 8, 0, 1, 2] (by decide) rfl
      refine lv_istore hx hb dX2_settle_101 hl (by decide) rfl (fun ls hl => ?_)
      have hl : lv_has ls 6 [(4, .int (bI ((cg_rd (S, F, E) n g3).2))), (5, .int (nI r9)), (0, .ref zc), (1, .ref zt), (2, .ref zp), (3, .int x)] := hl
      refine lv_iinc (k := 1) (v := nI (r9 + 1)) hx hb dX2_settle_103 hl rfl cx_inc1 (by decide) rfl (fun ls hl => ?_)
      have hl : lv_has ls 6 [(5, .int (nI (r9 + 1))), (4, .int (bI ((cg_rd (S, F, E) n g3).2))), (0, .ref zc), (1, .ref zt), (2, .ref zp), (3, .int x)] := hl
      refine lv_goto (tgt := 82) hx hb dX2_settle_106 (by decide) ?_
      exact ih3 (r9 + 1) ((cg_rd (S, F, E) n g3).2) ((cg_rd (S, F, E) n g3).1) _ _ _ ⟨lv_sub hl [1, 0, 2, 3, 4, 5] rfl, hP, hD, hS, (by first | assumption | omega | rfl), (cg_rs qw hg3), (cg_rc qw (cg_eq_ok k qe) hg3)⟩ (by show n - (r9 + 1) < n - r9; omega)
    refine lv_iload_n hx hb dX2_settle_39 rfl (lv_at hl 4 rfl) ?_
    refine lv_iconst (v := nI 1) hx hb dX2_settle_40 (by decide) ?_
    refine lv_iload hx hb dX2_settle_41 (lv_at hl 0 rfl) ?_
    refine lv_ishl hx hb dX2_settle_43 ?_
    refine lv_iand hx hb dX2_settle_44 ?_
    refine lv_if_eq (tgt := 70) hx hb dX2_settle_45 (by decide) (fun b2 => ?_) (fun b2 => ?_)
    · skip
      refine lv_iinc (k := 0) (v := nI (q + 1)) hx hb dX2_settle_70 hl rfl cx_inc1 (by decide) rfl (fun ls hl => ?_)
      have hl : lv_has ls 6 [(4, .int (nI (q + 1))), (0, .ref zc), (1, .ref zt), (2, .ref zp), (3, .int x)] := hl
      refine lv_goto (tgt := 30) hx hb dX2_settle_73 (by decide) ?_
      exact ih2 (q + 1) g2 _ _ _ ⟨lv_sub hl [0, 1, 2, 3, 4] rfl, hP, hD, hS, (by first | assumption | omega | rfl), (by first | exact cg_eq_y hg2 (qe q b1).1 (qe q b1).2 (by cases h9 : bt x q with | true => rfl | false => exact absurd ((cb_test (by omega)).mpr h9) b2) | exact cg_eq_n hg2 ((cb_test (by omega)).mp b2))⟩ (by show k - (q + 1) < k - q; omega)
    refine lv_aload_n hx hb dX2_settle_48 rfl (lv_at hl 1 rfl) ?_
    refine lv_aload_n hx hb dX2_settle_49 rfl (lv_at hl 3 rfl) ?_
    refine va_get (D := (dC, dI)) (ci := 1) (v := .ref zl) (C := RX1) (T := TX1) (N := 3) hx hb hts (tb_c tbX1) hown hK hP 6 rfl rfl 0 (by decide) (hw _ tw_54) (fun _ h9 => h9) rfl dX2_settle_50 ?_
    refine lv_iload hx hb dX2_settle_53 (lv_at hl 0 rfl) ?_
    refine cx_iald hx hb hK hP 7 0 rfl rfl (by first | decide | omega) (v := nI (lf q)) (i := q) rfl (by first | omega | exact hB _ (by omega) | exact Nat.lt_of_lt_of_le (hB _ (by omega)) (by omega)) dX2_settle_55 ?_
    refine lv_aload_n hx hb dX2_settle_56 rfl (lv_at hl 3 rfl) ?_
    refine va_get (D := (dC, dI)) (ci := 1) (v := .ref zr) (C := RX1) (T := TX1) (N := 3) hx hb hts (tb_c tbX1) hown hK hP 6 rfl rfl 1 (by decide) (hw _ tw_57) (fun _ h9 => h9) rfl dX2_settle_57 ?_
    refine lv_iload hx hb dX2_settle_60 (lv_at hl 0 rfl) ?_
    refine cx_iald hx hb hK hP 8 0 rfl rfl (by first | decide | omega) (v := nI (rt q)) (i := q) rfl (by first | omega | exact hB _ (by omega) | exact Nat.lt_of_lt_of_le (hB _ (by omega)) (by omega)) dX2_settle_62 ?_
    refine lv_aload_n hx hb dX2_settle_63 rfl (lv_at hl 2 rfl) ?_
    refine va_get (D := (dC, dI)) (ci := 3) (v := .int (nI n)) (C := RX3) (T := TX3) (N := 4) hx hb hts (tb_c tbX3) hown hK hP 2 rfl rfl 3 (by decide) (hw _ tw_36) (fun _ h9 => h9) rfl dX2_settle_64 ?_
    refine cx_mv (wc := [(zc, .inr (2, [.ref zd])), (zd, .inl (kI, 40, .inl (cI g2)))]) (wr := [(zt, .inr (3, [.ref zs, .ref zf, .ref ze, .int (nI n)])), (zs, .inl (kI, 40, .inl S)), (zf, .inl (kI, 40, .inl (cA F))), (ze, .inl (kI, 40, .inl (cA E))), (zp, .inr (1, [.ref zl, .ref zr, .int (nI k)])), (zl, .inl (kI, mx, .inl (cI lf))), (zr, .inl (kI, mx, .inl (cI rt)))]) hP hD hS hA [0, 1] [2, 3, 4, 5, 6, 7, 8] rfl rfl (by decide) (by decide) (va_runV (As := [.int (nI (lf q)), .int (nI (rt q)), .int (nI n)]) (rest := []) ⟨hx, hb, hml, hown, hts⟩ (c_X2_merge l dC dI kI kL zc zd g2 n (lf q) (rt q) (by first | assumption | omega | rfl) (by first | assumption | omega | rfl) ((qe q b1).1) ((qe q b1).2) _) (cwV 3 hts gv_X2_46 rfl rfl rfl hdX2_merge ⟨Nat.le_of_ble_eq_true rfl, Nat.le_of_ble_eq_true rfl⟩) (cx_mreV (hP.sub (ws' := [(zc, .inr (2, [.ref zd])), (zd, .inl (kI, 40, .inl (cI g2)))]) [0, 1] rfl) hK (hD.sub (ws' := [(zc, .inr (2, [.ref zd])), (zd, .inl (kI, 40, .inl (cI g2)))]) [0, 1] (by decide) rfl) rfl (q0 := 0) rfl) rfl rfl hl.1 rfl (lv_room (Nat.le_of_ble_eq_true rfl)) dX2_settle_67 ⟨Nat.zero_le _, Nat.zero_le _⟩) (fun u67 H locs hres hP hD hS => ?_)
    have hP : va_P (dC, dI) vwCl [(zc, .inr (2, [.ref zd])), (zd, .inl (kI, 40, .inl (cI (cg_mg n g2 (lf q) (rt q))))), (zt, .inr (3, [.ref zs, .ref zf, .ref ze, .int (nI n)])), (zs, .inl (kI, 40, .inl S)), (zf, .inl (kI, 40, .inl (cA F))), (ze, .inl (kI, 40, .inl (cA E))), (zp, .inr (1, [.ref zl, .ref zr, .int (nI k)])), (zl, .inl (kI, mx, .inl (cI lf))), (zr, .inl (kI, mx, .inl (cI rt)))] H := hP.sub (ws' := [(zc, .inr (2, [.ref zd])), (zd, .inl (kI, 40, .inl (cI (cg_mg n g2 (lf q) (rt q))))), (zt, .inr (3, [.ref zs, .ref zf, .ref ze, .int (nI n)])), (zs, .inl (kI, 40, .inl S)), (zf, .inl (kI, 40, .inl (cA F))), (ze, .inl (kI, 40, .inl (cA E))), (zp, .inr (1, [.ref zl, .ref zr, .int (nI k)])), (zl, .inl (kI, mx, .inl (cI lf))), (zr, .inl (kI, mx, .inl (cI rt)))]) [7, 8, 0, 1, 2, 3, 4, 5, 6] rfl
    have hD : va_D AA [(zc, .inr (2, [.ref zd])), (zd, .inl (kI, 40, .inl (cI (cg_mg n g2 (lf q) (rt q))))), (zt, .inr (3, [.ref zs, .ref zf, .ref ze, .int (nI n)])), (zs, .inl (kI, 40, .inl S)), (zf, .inl (kI, 40, .inl (cA F))), (ze, .inl (kI, 40, .inl (cA E))), (zp, .inr (1, [.ref zl, .ref zr, .int (nI k)])), (zl, .inl (kI, mx, .inl (cI lf))), (zr, .inl (kI, mx, .inl (cI rt)))] := hD.sub (ws' := [(zc, .inr (2, [.ref zd])), (zd, .inl (kI, 40, .inl (cI (cg_mg n g2 (lf q) (rt q))))), (zt, .inr (3, [.ref zs, .ref zf, .ref ze, .int (nI n)])), (zs, .inl (kI, 40, .inl S)), (zf, .inl (kI, 40, .inl (cA F))), (ze, .inl (kI, 40, .inl (cA E))), (zp, .inr (1, [.ref zl, .ref zr, .int (nI k)])), (zl, .inl (kI, mx, .inl (cI lf))), (zr, .inl (kI, mx, .inl (cI rt)))]) [7, 8, 0, 1, 2, 3, 4, 5, 6] (by decide) rfl
    refine lv_iinc (k := 0) (v := nI (q + 1)) hx hb dX2_settle_70 hl rfl cx_inc1 (by decide) rfl (fun ls hl => ?_)
    have hl : lv_has ls 6 [(4, .int (nI (q + 1))), (0, .ref zc), (1, .ref zt), (2, .ref zp), (3, .int x)] := hl
    refine lv_goto (tgt := 30) hx hb dX2_settle_73 (by decide) ?_
    exact ih2 (q + 1) (cg_mg n g2 (lf q) (rt q)) _ _ _ ⟨lv_sub hl [0, 1, 2, 3, 4] rfl, hP, hD, hS, (by first | assumption | omega | rfl), (by first | exact cg_eq_y hg2 (qe q b1).1 (qe q b1).2 (by cases h9 : bt x q with | true => rfl | false => exact absurd ((cb_test (by omega)).mpr h9) b2) | exact cg_eq_n hg2 ((cb_test (by omega)).mp b2))⟩ (by show k - (q + 1) < k - q; omega)
  refine lv_aload_n hx hb dX2_settle_12 rfl (lv_at hl 1 rfl) ?_
  refine va_get (D := (dC, dI)) (ci := 2) (v := .ref zd) (C := RX2) (T := TX2) (N := 1) hx hb hts (tb_c tbX2) hown hK hP 0 rfl rfl 0 (by decide) (hw _ tw_98) (fun _ h9 => h9) rfl dX2_settle_13 ?_
  refine lv_iload hx hb dX2_settle_16 (lv_at hl 0 rfl) ?_
  refine lv_iload hx hb dX2_settle_18 (lv_at hl 0 rfl) ?_
  refine cx_iast hx hb hK hP hD hS 1 0 rfl rfl (by first | decide | omega) (i := v) (cI_u) (by first | omega | exact hB _ (by omega) | exact Nat.lt_of_lt_of_le (hB _ (by omega)) (by omega)) dX2_settle_20 (fun H locs hP hD hS => ?_)
  have hP : va_P (dC, dI) vwCl [(zc, .inr (2, [.ref zd])), (zd, .inl (kI, 40, .inl (cI (wt_u g v v)))), (zt, .inr (3, [.ref zs, .ref zf, .ref ze, .int (nI n)])), (zs, .inl (kI, 40, .inl S)), (zf, .inl (kI, 40, .inl (cA F))), (ze, .inl (kI, 40, .inl (cA E))), (zp, .inr (1, [.ref zl, .ref zr, .int (nI k)])), (zl, .inl (kI, mx, .inl (cI lf))), (zr, .inl (kI, mx, .inl (cI rt)))] H := hP
  have hD : va_D AA [(zc, .inr (2, [.ref zd])), (zd, .inl (kI, 40, .inl (cI (wt_u g v v)))), (zt, .inr (3, [.ref zs, .ref zf, .ref ze, .int (nI n)])), (zs, .inl (kI, 40, .inl S)), (zf, .inl (kI, 40, .inl (cA F))), (ze, .inl (kI, 40, .inl (cA E))), (zp, .inr (1, [.ref zl, .ref zr, .int (nI k)])), (zl, .inl (kI, mx, .inl (cI lf))), (zr, .inl (kI, mx, .inl (cI rt)))] := hD
  refine lv_iinc (k := 0) (v := nI (v + 1)) hx hb dX2_settle_21 hl rfl cx_inc1 (by decide) rfl (fun ls hl => ?_)
  have hl : lv_has ls 6 [(4, .int (nI (v + 1))), (0, .ref zc), (1, .ref zt), (2, .ref zp), (3, .int x)] := hl
  refine lv_goto (tgt := 3) hx hb dX2_settle_24 (by decide) ?_
  exact ih1 (v + 1) (wt_u g v v) _ _ _ ⟨lv_sub hl [0, 1, 2, 3, 4] rfl, hP, hD, hS, (by first | assumption | omega | rfl), (cg_id_s hg)⟩ (by show n - (v + 1) < n - v; omega)
end
section
set_option maxHeartbeats 4000000 in
set_option maxRecDepth 100000 in
theorem c_X3_numberOf (l : Launch) (dC : Nat → ClassId) (dI : Nat → Nat → Nat) (kI kL : ClassId) (zt : Nat) (zs : Nat) (zf : Nat) (ze : Nat) (n : Nat) (S : Nat → Int32) (F : Nat → Nat) (E : Nat → Nat) (sy : Int32) (x : Nat) (y : Nat) (qn : n ≤ 40) (qw : cg_wf (S, F, E) n) (qx : x ≤ n) (qy : y ≤ n) : Met l yX3_numberOf (.code yX3_numberOf cX3_numberOf 5 (some .int) :: tbw) { frames := 0, cells := 0, slots := 0, locals := 0 } (va_Pc [.ref zt, .int sy, .int (aI x), .int (aI y)] (cx_R (dC, dI) vwCl [(zt, .inr (3, [.ref zs, .ref zf, .ref ze, .int (nI n)])), (zs, .inl (kI, 40, .inl S)), (zf, .inl (kI, 40, .inl (cA F))), (ze, .inl (kI, 40, .inl (cA E)))] [(kI, .int), (kL, .long)])) (vp_Si (fun r => r = aI (cg_sr (cg_PN S F E sy x y) n))) 0 0 (fun _ => False) := by
  refine Met.ofW (cc := cX3_numberOf) (maxL := 5) (ret := (some .int)) (by decide) rfl ?_
  intro p e s m args below meth c s₁ B hml hv
  obtain ⟨rfl, hP, hK⟩ := hv
  have hx := B.exec
  have hb := B.bytes
  have hr := B.returns
  have hts := atoms_spec (ws := .code yX3_numberOf cX3_numberOf 5 (some .int) :: tbw) B.pre
  have hw : ∀ w ∈ tbw, w.before _ s = true := fun w h => hts w (List.mem_cons_of_mem _ h)
  have hown : s.vm.findClass RX3 = some m.cls := findClass_of_methodNamed B.named
  have hP : va_P (dC, dI) vwCl [(zt, .inr (3, [.ref zs, .ref zf, .ref ze, .int (nI n)])), (zs, .inl (kI, 40, .inl S)), (zf, .inl (kI, 40, .inl (cA F))), (ze, .inl (kI, 40, .inl (cA E)))] s.heap := hP
  have hl := lv_entry ([.ref zt, .int sy, .int (aI x), .int (aI y)]) (n := 5) (Nat.le_of_ble_eq_true rfl)
  rw [lg_entry_eq]
  generalize (lg_sl ([.ref zt, .int sy, .int (aI x), .int (aI y)]) ++ List.replicate (5 - (lg_sl ([.ref zt, .int sy, .int (aI x), .int (aI y)])).length) Slot.unset).toArray = ls at hl ⊢
  have hl : lv_has ls 5 [(0, .ref zt), (1, .int sy), (2, .int (aI x)), (3, .int (aI y))] := hl
  refine lv_iconst (v := nI 0) hx hb dX3_numberOf_0 (by decide) ?_
  refine lv_istore hx hb dX3_numberOf_1 hl (by decide) rfl (fun ls hl => ?_)
  have hl : lv_has ls 5 [(4, .int (nI 0)), (0, .ref zt), (1, .int sy), (2, .int (aI x)), (3, .int (aI y))] := hl
  refine cx_loopR1 (fun (v : Nat) (ls : Array Slot) => lv_has ls 5 [(4, .int (nI v)), (0, .ref zt), (1, .int sy), (2, .int (aI x)), (3, .int (aI y))] ∧ (v ≤ n) ∧ (∀ u, u < v → (cg_PN S F E sy x y) u = false)) (fun v => n - v) (fun v ls hI ih1 => ?_) 0 ⟨lv_sub hl [0, 1, 2, 3, 4] rfl, (by first | assumption | omega | rfl), (fun u h => absurd h (Nat.not_lt_zero u))⟩
  obtain ⟨hl, hv1, hno⟩ := hI
  refine lv_iload hx hb dX3_numberOf_3 (lv_at hl 0 rfl) ?_
  refine lv_aload_n hx hb dX3_numberOf_5 rfl (lv_at hl 1 rfl) ?_
  refine va_get (D := (dC, dI)) (ci := 3) (v := .int (nI n)) (C := RX3) (T := TX3) (N := 4) hx hb hts (tb_c tbX3) hown hK hP 0 rfl rfl 3 (by decide) (hw _ tw_33) (fun _ h9 => h9) rfl dX3_numberOf_6 ?_
  refine cx_ge (x := v) (y := n) (tgt := 54) hx hb dX3_numberOf_9 (by decide) (by first | omega | exact hB _ (by omega) | exact Nat.lt_of_lt_of_le (hB _ (by omega)) (by omega)) (by first | omega | exact hB _ (by omega) | exact Nat.lt_of_lt_of_le (hB _ (by omega)) (by omega)) (fun b0 => ?_) (fun b0 => ?_)
  · skip
    refine lv_iconst (v := (-1)) hx hb dX3_numberOf_54 (by decide) ?_
    exact W.iret (v := (-1)) hx hb hr (fun t ht hW => ⟨_, rfl, congrArg aI (cg_sr_n hno b0), ht⟩) (fun _ h9 => by cases h9) dX3_numberOf_55
  have e1 := qw v b0
  simp only at e1
  refine lv_aload_n hx hb dX3_numberOf_12 rfl (lv_at hl 1 rfl) ?_
  refine va_get (D := (dC, dI)) (ci := 3) (v := .ref zs) (C := RX3) (T := TX3) (N := 4) hx hb hts (tb_c tbX3) hown hK hP 0 rfl rfl 0 (by decide) (hw _ tw_24) (fun _ h9 => h9) rfl dX3_numberOf_13 ?_
  refine lv_iload hx hb dX3_numberOf_16 (lv_at hl 0 rfl) ?_
  refine cx_iald hx hb hK hP 1 0 rfl rfl (by first | decide | omega) (v := (S v)) (i := v) rfl (by first | omega | exact hB _ (by omega) | exact Nat.lt_of_lt_of_le (hB _ (by omega)) (by omega)) dX3_numberOf_18 ?_
  refine lv_iload_n hx hb dX3_numberOf_19 rfl (lv_at hl 2 rfl) ?_
  refine lv_icmp_ne (tgt := 48) hx hb dX3_numberOf_20 (by decide) (fun b1 => ?_) (fun b1 => ?_)
  · skip
    refine lv_iinc (k := 0) (v := nI (v + 1)) hx hb dX3_numberOf_48 hl rfl cx_inc1 (by decide) rfl (fun ls hl => ?_)
    have hl : lv_has ls 5 [(4, .int (nI (v + 1))), (0, .ref zt), (1, .int sy), (2, .int (aI x)), (3, .int (aI y))] := hl
    refine lv_goto (tgt := 3) hx hb dX3_numberOf_51 (by decide) ?_
    exact ih1 (v + 1) _ ⟨lv_sub hl [0, 1, 2, 3, 4] rfl, (by first | assumption | omega | rfl), (cg_sr_s hno (by first | exact cx_nof1 b1 | exact cx_nof2 b2 | exact cx_nof3 b3))⟩ (by show n - (v + 1) < n - v; omega)
  refine lv_aload_n hx hb dX3_numberOf_23 rfl (lv_at hl 1 rfl) ?_
  refine va_get (D := (dC, dI)) (ci := 3) (v := .ref zf) (C := RX3) (T := TX3) (N := 4) hx hb hts (tb_c tbX3) hown hK hP 0 rfl rfl 1 (by decide) (hw _ tw_27) (fun _ h9 => h9) rfl dX3_numberOf_24 ?_
  refine lv_iload hx hb dX3_numberOf_27 (lv_at hl 0 rfl) ?_
  refine cx_iald hx hb hK hP 2 0 rfl rfl (by first | decide | omega) (v := aI (F v)) (i := v) rfl (by first | omega | exact hB _ (by omega) | exact Nat.lt_of_lt_of_le (hB _ (by omega)) (by omega)) dX3_numberOf_29 ?_
  refine lv_iload_n hx hb dX3_numberOf_30 rfl (lv_at hl 3 rfl) ?_
  refine cx_ane (x := (F v)) (y := x) (tgt := 48) hx hb dX3_numberOf_31 (by decide) (by first | omega | exact hB _ (by omega) | exact Nat.lt_of_lt_of_le (hB _ (by omega)) (by omega)) (by first | omega | exact hB _ (by omega) | exact Nat.lt_of_lt_of_le (hB _ (by omega)) (by omega)) (fun b2 => ?_) (fun b2 => ?_)
  · skip
    refine lv_iinc (k := 0) (v := nI (v + 1)) hx hb dX3_numberOf_48 hl rfl cx_inc1 (by decide) rfl (fun ls hl => ?_)
    have hl : lv_has ls 5 [(4, .int (nI (v + 1))), (0, .ref zt), (1, .int sy), (2, .int (aI x)), (3, .int (aI y))] := hl
    refine lv_goto (tgt := 3) hx hb dX3_numberOf_51 (by decide) ?_
    exact ih1 (v + 1) _ ⟨lv_sub hl [0, 1, 2, 3, 4] rfl, (by first | assumption | omega | rfl), (cg_sr_s hno (by first | exact cx_nof1 b1 | exact cx_nof2 b2 | exact cx_nof3 b3))⟩ (by show n - (v + 1) < n - v; omega)
  refine lv_aload_n hx hb dX3_numberOf_34 rfl (lv_at hl 1 rfl) ?_
  refine va_get (D := (dC, dI)) (ci := 3) (v := .ref ze) (C := RX3) (T := TX3) (N := 4) hx hb hts (tb_c tbX3) hown hK hP 0 rfl rfl 2 (by decide) (hw _ tw_30) (fun _ h9 => h9) rfl dX3_numberOf_35 ?_
  refine lv_iload hx hb dX3_numberOf_38 (lv_at hl 0 rfl) ?_
  refine cx_iald hx hb hK hP 3 0 rfl rfl (by first | decide | omega) (v := aI (E v)) (i := v) rfl (by first | omega | exact hB _ (by omega) | exact Nat.lt_of_lt_of_le (hB _ (by omega)) (by omega)) dX3_numberOf_40 ?_
  refine lv_iload_n hx hb dX3_numberOf_41 rfl (lv_at hl 4 rfl) ?_
  refine cx_ane (x := (E v)) (y := y) (tgt := 48) hx hb dX3_numberOf_42 (by decide) (by first | omega | exact hB _ (by omega) | exact Nat.lt_of_lt_of_le (hB _ (by omega)) (by omega)) (by first | omega | exact hB _ (by omega) | exact Nat.lt_of_lt_of_le (hB _ (by omega)) (by omega)) (fun b3 => ?_) (fun b3 => ?_)
  · skip
    refine lv_iinc (k := 0) (v := nI (v + 1)) hx hb dX3_numberOf_48 hl rfl cx_inc1 (by decide) rfl (fun ls hl => ?_)
    have hl : lv_has ls 5 [(4, .int (nI (v + 1))), (0, .ref zt), (1, .int sy), (2, .int (aI x)), (3, .int (aI y))] := hl
    refine lv_goto (tgt := 3) hx hb dX3_numberOf_51 (by decide) ?_
    exact ih1 (v + 1) _ ⟨lv_sub hl [0, 1, 2, 3, 4] rfl, (by first | assumption | omega | rfl), (cg_sr_s hno (by first | exact cx_nof1 b1 | exact cx_nof2 b2 | exact cx_nof3 b3))⟩ (by show n - (v + 1) < n - v; omega)
  refine lv_iload hx hb dX3_numberOf_45 (lv_at hl 0 rfl) ?_
  exact W.iret (v := nI v) hx hb hr (fun t ht hW => ⟨_, rfl, congrArg aI (cg_sr_y hno (cx_nof b1 b2 b3) b0), ht⟩) (fun _ h9 => by cases h9) dX3_numberOf_47

set_option maxHeartbeats 4000000 in
set_option maxRecDepth 100000 in
theorem c_X3_add (l : Launch) (dC : Nat → ClassId) (dI : Nat → Nat → Nat) (kI kL : ClassId) (zt : Nat) (zs : Nat) (zf : Nat) (ze : Nat) (n : Nat) (S : Nat → Int32) (F : Nat → Nat) (E : Nat → Nat) (sy : Int32) (x : Nat) (y : Nat) (qn : n < 40) (sz : Nat) : Met l yX3_add (.code yX3_add cX3_add 4 (some .int) :: tbw) { frames := 0, cells := 0, slots := 0, locals := 0 } (va_Pc [.ref zt, .int sy, .int (aI x), .int (aI y)] (cx_M (dC, dI) vwCl [(zt, .inr (3, [.ref zs, .ref zf, .ref ze, .int (nI n)])), (zs, .inl (kI, 40, .inl S)), (zf, .inl (kI, 40, .inl (cA F))), (ze, .inl (kI, 40, .inl (cA E)))] [(kI, .int), (kL, .long)] sz)) (va_Qi (fun (r : Int32) (u : Unit) => r = nI n) (cx_B (dC, dI) vwCl (va_A [(zt, .inr (3, [.ref zs, .ref zf, .ref ze, .int (nI n)])), (zs, .inl (kI, 40, .inl S)), (zf, .inl (kI, 40, .inl (cA F))), (ze, .inl (kI, 40, .inl (cA E)))] sz) (fun u : Unit => [(zt, .inr (3, [.ref zs, .ref zf, .ref ze, .int (nI (n + 1))])), (zs, .inl (kI, 40, .inl (upd S n sy))), (zf, .inl (kI, 40, .inl (cA (wt_u F n x)))), (ze, .inl (kI, 40, .inl (cA (wt_u E n y))))])) (va_A [(zt, .inr (3, [.ref zs, .ref zf, .ref ze, .int (nI n)])), (zs, .inl (kI, 40, .inl S)), (zf, .inl (kI, 40, .inl (cA F))), (ze, .inl (kI, 40, .inl (cA E)))] sz)) 0 0 (va_A [(zt, .inr (3, [.ref zs, .ref zf, .ref ze, .int (nI n)])), (zs, .inl (kI, 40, .inl S)), (zf, .inl (kI, 40, .inl (cA F))), (ze, .inl (kI, 40, .inl (cA E)))] sz) := by
  refine Met.ofW (cc := cX3_add) (maxL := 4) (ret := (some .int)) (by decide) rfl ?_
  intro p e s m args below meth c s₁ B hml hv
  obtain ⟨rfl, hsz, hP, hK, hD0⟩ := hv
  have hx := B.exec
  have hb := B.bytes
  have hr := B.returns
  have hts := atoms_spec (ws := .code yX3_add cX3_add 4 (some .int) :: tbw) B.pre
  have hw : ∀ w ∈ tbw, w.before _ s = true := fun w h => hts w (List.mem_cons_of_mem _ h)
  have hown : s.vm.findClass RX3 = some m.cls := findClass_of_methodNamed B.named
  subst hsz
  have hD := hD0.self (sz := s.heap.size)
  generalize hAe : va_A [(zt, .inr (3, [.ref zs, .ref zf, .ref ze, .int (nI n)])), (zs, .inl (kI, 40, .inl S)), (zf, .inl (kI, 40, .inl (cA F))), (ze, .inl (kI, 40, .inl (cA E)))] s.heap.size = AA at hD ⊢
  have hA : ∀ q : Nat, s.heap.size ≤ q → AA q := fun q h => by rw [← hAe]; exact Or.inr h
  have hS : va_S AA s.heap s.heap [] := va_S.rf
  have hP : va_P (dC, dI) vwCl [(zt, .inr (3, [.ref zs, .ref zf, .ref ze, .int (nI n)])), (zs, .inl (kI, 40, .inl S)), (zf, .inl (kI, 40, .inl (cA F))), (ze, .inl (kI, 40, .inl (cA E)))] s.heap := hP
  have hl := lv_entry ([.ref zt, .int sy, .int (aI x), .int (aI y)]) (n := 4) (Nat.le_of_ble_eq_true rfl)
  rw [lg_entry_eq]
  generalize (lg_sl ([.ref zt, .int sy, .int (aI x), .int (aI y)]) ++ List.replicate (4 - (lg_sl ([.ref zt, .int sy, .int (aI x), .int (aI y)])).length) Slot.unset).toArray = ls at hl ⊢
  have hl : lv_has ls 4 [(0, .ref zt), (1, .int sy), (2, .int (aI x)), (3, .int (aI y))] := hl
  refine lv_aload_n hx hb dX3_add_0 rfl (lv_at hl 0 rfl) ?_
  refine va_get (D := (dC, dI)) (ci := 3) (v := .ref zs) (C := RX3) (T := TX3) (N := 4) hx hb hts (tb_c tbX3) hown hK hP 0 rfl rfl 0 (by decide) (hw _ tw_24) (fun _ h9 => h9) rfl dX3_add_1 ?_
  refine lv_aload_n hx hb dX3_add_4 rfl (lv_at hl 0 rfl) ?_
  refine va_get (D := (dC, dI)) (ci := 3) (v := .int (nI n)) (C := RX3) (T := TX3) (N := 4) hx hb hts (tb_c tbX3) hown hK hP 0 rfl rfl 3 (by decide) (hw _ tw_33) (fun _ h9 => h9) rfl dX3_add_5 ?_
  refine lv_iload_n hx hb dX3_add_8 rfl (lv_at hl 1 rfl) ?_
  refine cx_iast hx hb hK hP hD hS 1 0 rfl rfl (by first | decide | omega) (i := n) (rfl) (by first | omega | exact hB _ (by omega) | exact Nat.lt_of_lt_of_le (hB _ (by omega)) (by omega)) dX3_add_9 (fun H locs hP hD hS => ?_)
  have hP : va_P (dC, dI) vwCl [(zt, .inr (3, [.ref zs, .ref zf, .ref ze, .int (nI n)])), (zs, .inl (kI, 40, .inl (upd S n sy))), (zf, .inl (kI, 40, .inl (cA F))), (ze, .inl (kI, 40, .inl (cA E)))] H := hP
  have hD : va_D AA [(zt, .inr (3, [.ref zs, .ref zf, .ref ze, .int (nI n)])), (zs, .inl (kI, 40, .inl (upd S n sy))), (zf, .inl (kI, 40, .inl (cA F))), (ze, .inl (kI, 40, .inl (cA E)))] := hD
  refine lv_aload_n hx hb dX3_add_10 rfl (lv_at hl 0 rfl) ?_
  refine va_get (D := (dC, dI)) (ci := 3) (v := .ref zf) (C := RX3) (T := TX3) (N := 4) hx hb hts (tb_c tbX3) hown hK hP 0 rfl rfl 1 (by decide) (hw _ tw_27) (fun _ h9 => h9) rfl dX3_add_11 ?_
  refine lv_aload_n hx hb dX3_add_14 rfl (lv_at hl 0 rfl) ?_
  refine va_get (D := (dC, dI)) (ci := 3) (v := .int (nI n)) (C := RX3) (T := TX3) (N := 4) hx hb hts (tb_c tbX3) hown hK hP 0 rfl rfl 3 (by decide) (hw _ tw_33) (fun _ h9 => h9) rfl dX3_add_15 ?_
  refine lv_iload_n hx hb dX3_add_18 rfl (lv_at hl 2 rfl) ?_
  refine cx_iast hx hb hK hP hD hS 2 0 rfl rfl (by first | decide | omega) (i := n) (cA_u) (by first | omega | exact hB _ (by omega) | exact Nat.lt_of_lt_of_le (hB _ (by omega)) (by omega)) dX3_add_19 (fun H locs hP hD hS => ?_)
  have hP : va_P (dC, dI) vwCl [(zt, .inr (3, [.ref zs, .ref zf, .ref ze, .int (nI n)])), (zs, .inl (kI, 40, .inl (upd S n sy))), (zf, .inl (kI, 40, .inl (cA (wt_u F n x)))), (ze, .inl (kI, 40, .inl (cA E)))] H := hP
  have hD : va_D AA [(zt, .inr (3, [.ref zs, .ref zf, .ref ze, .int (nI n)])), (zs, .inl (kI, 40, .inl (upd S n sy))), (zf, .inl (kI, 40, .inl (cA (wt_u F n x)))), (ze, .inl (kI, 40, .inl (cA E)))] := hD
  refine lv_aload_n hx hb dX3_add_20 rfl (lv_at hl 0 rfl) ?_
  refine va_get (D := (dC, dI)) (ci := 3) (v := .ref ze) (C := RX3) (T := TX3) (N := 4) hx hb hts (tb_c tbX3) hown hK hP 0 rfl rfl 2 (by decide) (hw _ tw_30) (fun _ h9 => h9) rfl dX3_add_21 ?_
  refine lv_aload_n hx hb dX3_add_24 rfl (lv_at hl 0 rfl) ?_
  refine va_get (D := (dC, dI)) (ci := 3) (v := .int (nI n)) (C := RX3) (T := TX3) (N := 4) hx hb hts (tb_c tbX3) hown hK hP 0 rfl rfl 3 (by decide) (hw _ tw_33) (fun _ h9 => h9) rfl dX3_add_25 ?_
  refine lv_iload_n hx hb dX3_add_28 rfl (lv_at hl 3 rfl) ?_
  refine cx_iast hx hb hK hP hD hS 3 0 rfl rfl (by first | decide | omega) (i := n) (cA_u) (by first | omega | exact hB _ (by omega) | exact Nat.lt_of_lt_of_le (hB _ (by omega)) (by omega)) dX3_add_29 (fun H locs hP hD hS => ?_)
  have hP : va_P (dC, dI) vwCl [(zt, .inr (3, [.ref zs, .ref zf, .ref ze, .int (nI n)])), (zs, .inl (kI, 40, .inl (upd S n sy))), (zf, .inl (kI, 40, .inl (cA (wt_u F n x)))), (ze, .inl (kI, 40, .inl (cA (wt_u E n y))))] H := hP
  have hD : va_D AA [(zt, .inr (3, [.ref zs, .ref zf, .ref ze, .int (nI n)])), (zs, .inl (kI, 40, .inl (upd S n sy))), (zf, .inl (kI, 40, .inl (cA (wt_u F n x)))), (ze, .inl (kI, 40, .inl (cA (wt_u E n y))))] := hD
  refine lv_aload_n hx hb dX3_add_30 rfl (lv_at hl 0 rfl) ?_
  refine lv_dup hx hb dX3_add_31 rfl ?_
  refine va_get (D := (dC, dI)) (ci := 3) (v := .int (nI n)) (C := RX3) (T := TX3) (N := 4) hx hb hts (tb_c tbX3) hown hK hP 0 rfl rfl 3 (by decide) (hw _ tw_33) (fun _ h9 => h9) rfl dX3_add_32 ?_
  refine lv_iconst (v := nI 1) hx hb dX3_add_35 (by decide) ?_
  refine cx_iadd hx hb dX3_add_36 ?_
  refine va_put (D := (dC, dI)) (ci := 3) (v := .int (nI (n + 1))) (ty := .int) (C := RX3) (T := TX3) (N := 4) hx hb hts (tb_c tbX3) tyX3 tyX3_ok nmX3 hown hK hP hD hS 0 rfl rfl 3 (by decide) (hw _ tw_33) (fun _ h9 => h9) rfl (by decide +kernel) rfl rfl (Nat.le_of_ble_eq_true rfl) dX3_add_37 (fun H locs hP hD hS => ?_)
  have hP : va_P (dC, dI) vwCl [(zt, .inr (3, [.ref zs, .ref zf, .ref ze, .int (nI (n + 1))])), (zs, .inl (kI, 40, .inl (upd S n sy))), (zf, .inl (kI, 40, .inl (cA (wt_u F n x)))), (ze, .inl (kI, 40, .inl (cA (wt_u E n y))))] H := hP
  have hD : va_D AA [(zt, .inr (3, [.ref zs, .ref zf, .ref ze, .int (nI (n + 1))])), (zs, .inl (kI, 40, .inl (upd S n sy))), (zf, .inl (kI, 40, .inl (cA (wt_u F n x)))), (ze, .inl (kI, 40, .inl (cA (wt_u E n y))))] := hD
  refine lv_aload_n hx hb dX3_add_40 rfl (lv_at hl 0 rfl) ?_
  refine va_get (D := (dC, dI)) (ci := 3) (v := .int (nI (n + 1))) (C := RX3) (T := TX3) (N := 4) hx hb hts (tb_c tbX3) hown hK hP 0 rfl rfl 3 (by decide) (hw _ tw_33) (fun _ h9 => h9) rfl dX3_add_41 ?_
  refine lv_iconst (v := nI 1) hx hb dX3_add_44 (by decide) ?_
  refine cx_isub hx hb dX3_add_45 (by omega) ?_
  exact W.iret (v := nI ((n + 1) - 1)) hx hb hr (fun t ht hW => ⟨⟨_, (), rfl, rfl, by rw [ht]; exact hP, hD⟩, hS.F ht⟩) hS.2.2 dX3_add_46

set_option maxHeartbeats 4000000 in
set_option maxRecDepth 100000 in
theorem c_X1_isFull (l : Launch) (dC : Nat → ClassId) (dI : Nat → Nat → Nat) (kI kL : ClassId) (zp : Nat) (zl : Nat) (zr : Nat) (k : Nat) (mx : Nat) (lf : Nat → Nat) (rt : Nat → Nat) (qk : k < 2 ^ 31) (qmx : mx < 2 ^ 31) : Met l yX1_isFull (.code yX1_isFull cX1_isFull 1 (some .boolean) :: tbw) { frames := 0, cells := 0, slots := 0, locals := 0 } (va_Pc [.ref zp] (cx_R (dC, dI) vwCl [(zp, .inr (1, [.ref zl, .ref zr, .int (nI k)])), (zl, .inl (kI, mx, .inl (cI lf))), (zr, .inl (kI, mx, .inl (cI rt)))] [(kI, .int), (kL, .long)])) (vp_Si (fun r => r = bI (decide (mx ≤ k)))) 0 0 (fun _ => False) := by
  refine Met.ofW (cc := cX1_isFull) (maxL := 1) (ret := (some .boolean)) (by decide) rfl ?_
  intro p e s m args below meth c s₁ B hml hv
  obtain ⟨rfl, hP, hK⟩ := hv
  have hx := B.exec
  have hb := B.bytes
  have hr := B.returns
  have hts := atoms_spec (ws := .code yX1_isFull cX1_isFull 1 (some .boolean) :: tbw) B.pre
  have hw : ∀ w ∈ tbw, w.before _ s = true := fun w h => hts w (List.mem_cons_of_mem _ h)
  have hown : s.vm.findClass RX1 = some m.cls := findClass_of_methodNamed B.named
  have hP : va_P (dC, dI) vwCl [(zp, .inr (1, [.ref zl, .ref zr, .int (nI k)])), (zl, .inl (kI, mx, .inl (cI lf))), (zr, .inl (kI, mx, .inl (cI rt)))] s.heap := hP
  have hl := lv_entry ([.ref zp]) (n := 1) (Nat.le_of_ble_eq_true rfl)
  rw [lg_entry_eq]
  generalize (lg_sl ([.ref zp]) ++ List.replicate (1 - (lg_sl ([.ref zp])).length) Slot.unset).toArray = ls at hl ⊢
  have hl : lv_has ls 1 [(0, .ref zp)] := hl
  refine lv_aload_n hx hb dX1_isFull_0 rfl (lv_at hl 0 rfl) ?_
  refine va_get (D := (dC, dI)) (ci := 1) (v := .int (nI k)) (C := RX1) (T := TX1) (N := 3) hx hb hts (tb_c tbX1) hown hK hP 0 rfl rfl 2 (by decide) (hw _ tw_59) (fun _ h9 => h9) rfl dX1_isFull_1 ?_
  refine lv_aload_n hx hb dX1_isFull_4 rfl (lv_at hl 0 rfl) ?_
  refine va_get (D := (dC, dI)) (ci := 1) (v := .ref zl) (C := RX1) (T := TX1) (N := 3) hx hb hts (tb_c tbX1) hown hK hP 0 rfl rfl 0 (by decide) (hw _ tw_53) (fun _ h9 => h9) rfl dX1_isFull_5 ?_
  refine va_alen hx hb hK hP 1 0 rfl rfl (v := nI mx) rfl dX1_isFull_8 ?_
  refine cx_lt (x := k) (y := mx) (tgt := 16) hx hb dX1_isFull_9 (by decide) (by first | omega | exact hB _ (by omega) | exact Nat.lt_of_lt_of_le (hB _ (by omega)) (by omega)) (by first | omega | exact hB _ (by omega) | exact Nat.lt_of_lt_of_le (hB _ (by omega)) (by omega)) (fun b0 => ?_) (fun b0 => ?_)
  · skip
    refine lv_iconst (v := nI 0) hx hb dX1_isFull_16 (by decide) ?_
    exact W.zret (v := nI 0) hx hb hr (cx_narB false) (fun t ht hW => ⟨_, rfl, cx_bf (by first | assumption | omega | (simp_all; done)), ht⟩) (fun _ h9 => by cases h9) dX1_isFull_17
  refine lv_iconst (v := nI 1) hx hb dX1_isFull_12 (by decide) ?_
  refine lv_goto (tgt := 17) hx hb dX1_isFull_13 (by decide) ?_
  exact W.zret (v := nI 1) hx hb hr (cx_narB true) (fun t ht hW => ⟨_, rfl, cx_bt (by first | assumption | omega | (simp_all; done)), ht⟩) (fun _ h9 => by cases h9) dX1_isFull_17

set_option maxHeartbeats 4000000 in
set_option maxRecDepth 100000 in
theorem c_X1_add (l : Launch) (dC : Nat → ClassId) (dI : Nat → Nat → Nat) (kI kL : ClassId) (zp : Nat) (zl : Nat) (zr : Nat) (k : Nat) (mx : Nat) (lf : Nat → Nat) (rt : Nat → Nat) (i : Nat) (j : Nat) (qk : k < mx) (qmx : mx < 2 ^ 31) (sz : Nat) : Met l yX1_add (.code yX1_add cX1_add 3 (some .int) :: tbw) { frames := 0, cells := 0, slots := 0, locals := 0 } (va_Pc [.ref zp, .int (nI i), .int (nI j)] (cx_M (dC, dI) vwCl [(zp, .inr (1, [.ref zl, .ref zr, .int (nI k)])), (zl, .inl (kI, mx, .inl (cI lf))), (zr, .inl (kI, mx, .inl (cI rt)))] [(kI, .int), (kL, .long)] sz)) (va_Qi (fun (r : Int32) (u : Unit) => r = nI k) (cx_B (dC, dI) vwCl (va_A [(zp, .inr (1, [.ref zl, .ref zr, .int (nI k)])), (zl, .inl (kI, mx, .inl (cI lf))), (zr, .inl (kI, mx, .inl (cI rt)))] sz) (fun u : Unit => [(zp, .inr (1, [.ref zl, .ref zr, .int (nI (k + 1))])), (zl, .inl (kI, mx, .inl (cI (wt_u lf k i)))), (zr, .inl (kI, mx, .inl (cI (wt_u rt k j))))])) (va_A [(zp, .inr (1, [.ref zl, .ref zr, .int (nI k)])), (zl, .inl (kI, mx, .inl (cI lf))), (zr, .inl (kI, mx, .inl (cI rt)))] sz)) 0 0 (va_A [(zp, .inr (1, [.ref zl, .ref zr, .int (nI k)])), (zl, .inl (kI, mx, .inl (cI lf))), (zr, .inl (kI, mx, .inl (cI rt)))] sz) := by
  refine Met.ofW (cc := cX1_add) (maxL := 3) (ret := (some .int)) (by decide) rfl ?_
  intro p e s m args below meth c s₁ B hml hv
  obtain ⟨rfl, hsz, hP, hK, hD0⟩ := hv
  have hx := B.exec
  have hb := B.bytes
  have hr := B.returns
  have hts := atoms_spec (ws := .code yX1_add cX1_add 3 (some .int) :: tbw) B.pre
  have hw : ∀ w ∈ tbw, w.before _ s = true := fun w h => hts w (List.mem_cons_of_mem _ h)
  have hown : s.vm.findClass RX1 = some m.cls := findClass_of_methodNamed B.named
  subst hsz
  have hD := hD0.self (sz := s.heap.size)
  generalize hAe : va_A [(zp, .inr (1, [.ref zl, .ref zr, .int (nI k)])), (zl, .inl (kI, mx, .inl (cI lf))), (zr, .inl (kI, mx, .inl (cI rt)))] s.heap.size = AA at hD ⊢
  have hA : ∀ q : Nat, s.heap.size ≤ q → AA q := fun q h => by rw [← hAe]; exact Or.inr h
  have hS : va_S AA s.heap s.heap [] := va_S.rf
  have hP : va_P (dC, dI) vwCl [(zp, .inr (1, [.ref zl, .ref zr, .int (nI k)])), (zl, .inl (kI, mx, .inl (cI lf))), (zr, .inl (kI, mx, .inl (cI rt)))] s.heap := hP
  have hl := lv_entry ([.ref zp, .int (nI i), .int (nI j)]) (n := 3) (Nat.le_of_ble_eq_true rfl)
  rw [lg_entry_eq]
  generalize (lg_sl ([.ref zp, .int (nI i), .int (nI j)]) ++ List.replicate (3 - (lg_sl ([.ref zp, .int (nI i), .int (nI j)])).length) Slot.unset).toArray = ls at hl ⊢
  have hl : lv_has ls 3 [(0, .ref zp), (1, .int (nI i)), (2, .int (nI j))] := hl
  refine lv_aload_n hx hb dX1_add_0 rfl (lv_at hl 0 rfl) ?_
  refine va_get (D := (dC, dI)) (ci := 1) (v := .ref zl) (C := RX1) (T := TX1) (N := 3) hx hb hts (tb_c tbX1) hown hK hP 0 rfl rfl 0 (by decide) (hw _ tw_53) (fun _ h9 => h9) rfl dX1_add_1 ?_
  refine lv_aload_n hx hb dX1_add_4 rfl (lv_at hl 0 rfl) ?_
  refine va_get (D := (dC, dI)) (ci := 1) (v := .int (nI k)) (C := RX1) (T := TX1) (N := 3) hx hb hts (tb_c tbX1) hown hK hP 0 rfl rfl 2 (by decide) (hw _ tw_59) (fun _ h9 => h9) rfl dX1_add_5 ?_
  refine lv_iload_n hx hb dX1_add_8 rfl (lv_at hl 1 rfl) ?_
  refine cx_iast hx hb hK hP hD hS 1 0 rfl rfl (by first | decide | omega) (i := k) (cI_u) (by first | omega | exact hB _ (by omega) | exact Nat.lt_of_lt_of_le (hB _ (by omega)) (by omega)) dX1_add_9 (fun H locs hP hD hS => ?_)
  have hP : va_P (dC, dI) vwCl [(zp, .inr (1, [.ref zl, .ref zr, .int (nI k)])), (zl, .inl (kI, mx, .inl (cI (wt_u lf k i)))), (zr, .inl (kI, mx, .inl (cI rt)))] H := hP
  have hD : va_D AA [(zp, .inr (1, [.ref zl, .ref zr, .int (nI k)])), (zl, .inl (kI, mx, .inl (cI (wt_u lf k i)))), (zr, .inl (kI, mx, .inl (cI rt)))] := hD
  refine lv_aload_n hx hb dX1_add_10 rfl (lv_at hl 0 rfl) ?_
  refine va_get (D := (dC, dI)) (ci := 1) (v := .ref zr) (C := RX1) (T := TX1) (N := 3) hx hb hts (tb_c tbX1) hown hK hP 0 rfl rfl 1 (by decide) (hw _ tw_56) (fun _ h9 => h9) rfl dX1_add_11 ?_
  refine lv_aload_n hx hb dX1_add_14 rfl (lv_at hl 0 rfl) ?_
  refine va_get (D := (dC, dI)) (ci := 1) (v := .int (nI k)) (C := RX1) (T := TX1) (N := 3) hx hb hts (tb_c tbX1) hown hK hP 0 rfl rfl 2 (by decide) (hw _ tw_59) (fun _ h9 => h9) rfl dX1_add_15 ?_
  refine lv_iload_n hx hb dX1_add_18 rfl (lv_at hl 2 rfl) ?_
  refine cx_iast hx hb hK hP hD hS 2 0 rfl rfl (by first | decide | omega) (i := k) (cI_u) (by first | omega | exact hB _ (by omega) | exact Nat.lt_of_lt_of_le (hB _ (by omega)) (by omega)) dX1_add_19 (fun H locs hP hD hS => ?_)
  have hP : va_P (dC, dI) vwCl [(zp, .inr (1, [.ref zl, .ref zr, .int (nI k)])), (zl, .inl (kI, mx, .inl (cI (wt_u lf k i)))), (zr, .inl (kI, mx, .inl (cI (wt_u rt k j))))] H := hP
  have hD : va_D AA [(zp, .inr (1, [.ref zl, .ref zr, .int (nI k)])), (zl, .inl (kI, mx, .inl (cI (wt_u lf k i)))), (zr, .inl (kI, mx, .inl (cI (wt_u rt k j))))] := hD
  refine lv_aload_n hx hb dX1_add_20 rfl (lv_at hl 0 rfl) ?_
  refine lv_dup hx hb dX1_add_21 rfl ?_
  refine va_get (D := (dC, dI)) (ci := 1) (v := .int (nI k)) (C := RX1) (T := TX1) (N := 3) hx hb hts (tb_c tbX1) hown hK hP 0 rfl rfl 2 (by decide) (hw _ tw_59) (fun _ h9 => h9) rfl dX1_add_22 ?_
  refine lv_iconst (v := nI 1) hx hb dX1_add_25 (by decide) ?_
  refine cx_iadd hx hb dX1_add_26 ?_
  refine va_put (D := (dC, dI)) (ci := 1) (v := .int (nI (k + 1))) (ty := .int) (C := RX1) (T := TX1) (N := 3) hx hb hts (tb_c tbX1) tyX1 tyX1_ok nmX1 hown hK hP hD hS 0 rfl rfl 2 (by decide) (hw _ tw_59) (fun _ h9 => h9) rfl (by decide +kernel) rfl rfl (Nat.le_of_ble_eq_true rfl) dX1_add_27 (fun H locs hP hD hS => ?_)
  have hP : va_P (dC, dI) vwCl [(zp, .inr (1, [.ref zl, .ref zr, .int (nI (k + 1))])), (zl, .inl (kI, mx, .inl (cI (wt_u lf k i)))), (zr, .inl (kI, mx, .inl (cI (wt_u rt k j))))] H := hP
  have hD : va_D AA [(zp, .inr (1, [.ref zl, .ref zr, .int (nI (k + 1))])), (zl, .inl (kI, mx, .inl (cI (wt_u lf k i)))), (zr, .inl (kI, mx, .inl (cI (wt_u rt k j))))] := hD
  refine lv_aload_n hx hb dX1_add_30 rfl (lv_at hl 0 rfl) ?_
  refine va_get (D := (dC, dI)) (ci := 1) (v := .int (nI (k + 1))) (C := RX1) (T := TX1) (N := 3) hx hb hts (tb_c tbX1) hown hK hP 0 rfl rfl 2 (by decide) (hw _ tw_59) (fun _ h9 => h9) rfl dX1_add_31 ?_
  refine lv_iconst (v := nI 1) hx hb dX1_add_34 (by decide) ?_
  refine cx_isub hx hb dX1_add_35 (by omega) ?_
  exact W.iret (v := nI ((k + 1) - 1)) hx hb hr (fun t ht hW => ⟨⟨_, (), rfl, rfl, by rw [ht]; exact hP, hD⟩, hS.F ht⟩) hS.2.2 dX1_add_36
end
section
set_option maxHeartbeats 4000000 in
set_option maxRecDepth 100000 in
theorem c_X0_push (l : Launch) (dC : Nat → ClassId) (dI : Nat → Nat → Nat) (kI kL : ClassId) (zv : Nat) (z1 : Nat) (z2 : Nat) (z3 : Nat) (dp : Nat) (ct : Nat → Nat) (st : Nat → Nat) (dt : Nat → Nat) (n : Nat) (k : Nat) (d : Nat) (qd : dp < 6) (sz : Nat) : Met l yX0_push (.code yX0_push cX0_push 4 none :: tbw) { frames := 0, cells := 0, slots := 0, locals := 0 } (va_Pc [.ref zv, .int (nI n), .int (nI k), .int (nI d)] (cx_M (dC, dI) vwCl [(zv, .inr (0, [.ref z1, .ref z2, .ref z3, .int (nI dp)])), (z1, .inl (kI, 6, .inl (cI ct))), (z2, .inl (kI, 6, .inl (cI st))), (z3, .inl (kI, 6, .inl (cI dt)))] [(kI, .int), (kL, .long)] sz)) (va_Qv (fun (u : Unit) => True) (cx_B (dC, dI) vwCl (va_A [(zv, .inr (0, [.ref z1, .ref z2, .ref z3, .int (nI dp)])), (z1, .inl (kI, 6, .inl (cI ct))), (z2, .inl (kI, 6, .inl (cI st))), (z3, .inl (kI, 6, .inl (cI dt)))] sz) (fun u : Unit => [(zv, .inr (0, [.ref z1, .ref z2, .ref z3, .int (nI (dp + 1))])), (z1, .inl (kI, 6, .inl (cI (wt_u ct dp n)))), (z2, .inl (kI, 6, .inl (cI (wt_u st dp k)))), (z3, .inl (kI, 6, .inl (cI (wt_u dt dp d))))])) (va_A [(zv, .inr (0, [.ref z1, .ref z2, .ref z3, .int (nI dp)])), (z1, .inl (kI, 6, .inl (cI ct))), (z2, .inl (kI, 6, .inl (cI st))), (z3, .inl (kI, 6, .inl (cI dt)))] sz)) 0 0 (va_A [(zv, .inr (0, [.ref z1, .ref z2, .ref z3, .int (nI dp)])), (z1, .inl (kI, 6, .inl (cI ct))), (z2, .inl (kI, 6, .inl (cI st))), (z3, .inl (kI, 6, .inl (cI dt)))] sz) := by
  refine Met.ofW (cc := cX0_push) (maxL := 4) (ret := none) (by decide) rfl ?_
  intro p e s m args below meth c s₁ B hml hv
  obtain ⟨rfl, hsz, hP, hK, hD0⟩ := hv
  have hx := B.exec
  have hb := B.bytes
  have hr := B.returns
  have hts := atoms_spec (ws := .code yX0_push cX0_push 4 none :: tbw) B.pre
  have hw : ∀ w ∈ tbw, w.before _ s = true := fun w h => hts w (List.mem_cons_of_mem _ h)
  have hown : s.vm.findClass RX0 = some m.cls := findClass_of_methodNamed B.named
  subst hsz
  have hD := hD0.self (sz := s.heap.size)
  generalize hAe : va_A [(zv, .inr (0, [.ref z1, .ref z2, .ref z3, .int (nI dp)])), (z1, .inl (kI, 6, .inl (cI ct))), (z2, .inl (kI, 6, .inl (cI st))), (z3, .inl (kI, 6, .inl (cI dt)))] s.heap.size = AA at hD ⊢
  have hA : ∀ q : Nat, s.heap.size ≤ q → AA q := fun q h => by rw [← hAe]; exact Or.inr h
  have hS : va_S AA s.heap s.heap [] := va_S.rf
  have hP : va_P (dC, dI) vwCl [(zv, .inr (0, [.ref z1, .ref z2, .ref z3, .int (nI dp)])), (z1, .inl (kI, 6, .inl (cI ct))), (z2, .inl (kI, 6, .inl (cI st))), (z3, .inl (kI, 6, .inl (cI dt)))] s.heap := hP
  have hl := lv_entry ([.ref zv, .int (nI n), .int (nI k), .int (nI d)]) (n := 4) (Nat.le_of_ble_eq_true rfl)
  rw [lg_entry_eq]
  generalize (lg_sl ([.ref zv, .int (nI n), .int (nI k), .int (nI d)]) ++ List.replicate (4 - (lg_sl ([.ref zv, .int (nI n), .int (nI k), .int (nI d)])).length) Slot.unset).toArray = ls at hl ⊢
  have hl : lv_has ls 4 [(0, .ref zv), (1, .int (nI n)), (2, .int (nI k)), (3, .int (nI d))] := hl
  refine lv_aload_n hx hb dX0_push_0 rfl (lv_at hl 0 rfl) ?_
  refine va_get (D := (dC, dI)) (ci := 0) (v := .ref z1) (C := RX0) (T := TX0) (N := 4) hx hb hts (tb_c tbX0) hown hK hP 0 rfl rfl 0 (by decide) (hw _ tw_75) (fun _ h9 => h9) rfl dX0_push_1 ?_
  refine lv_aload_n hx hb dX0_push_4 rfl (lv_at hl 0 rfl) ?_
  refine va_get (D := (dC, dI)) (ci := 0) (v := .int (nI dp)) (C := RX0) (T := TX0) (N := 4) hx hb hts (tb_c tbX0) hown hK hP 0 rfl rfl 3 (by decide) (hw _ tw_81) (fun _ h9 => h9) rfl dX0_push_5 ?_
  refine lv_iload_n hx hb dX0_push_8 rfl (lv_at hl 1 rfl) ?_
  refine cx_iast hx hb hK hP hD hS 1 0 rfl rfl (by first | decide | omega) (i := dp) (cI_u) (by first | omega | exact hB _ (by omega) | exact Nat.lt_of_lt_of_le (hB _ (by omega)) (by omega)) dX0_push_9 (fun H locs hP hD hS => ?_)
  have hP : va_P (dC, dI) vwCl [(zv, .inr (0, [.ref z1, .ref z2, .ref z3, .int (nI dp)])), (z1, .inl (kI, 6, .inl (cI (wt_u ct dp n)))), (z2, .inl (kI, 6, .inl (cI st))), (z3, .inl (kI, 6, .inl (cI dt)))] H := hP
  have hD : va_D AA [(zv, .inr (0, [.ref z1, .ref z2, .ref z3, .int (nI dp)])), (z1, .inl (kI, 6, .inl (cI (wt_u ct dp n)))), (z2, .inl (kI, 6, .inl (cI st))), (z3, .inl (kI, 6, .inl (cI dt)))] := hD
  refine lv_aload_n hx hb dX0_push_10 rfl (lv_at hl 0 rfl) ?_
  refine va_get (D := (dC, dI)) (ci := 0) (v := .ref z2) (C := RX0) (T := TX0) (N := 4) hx hb hts (tb_c tbX0) hown hK hP 0 rfl rfl 1 (by decide) (hw _ tw_77) (fun _ h9 => h9) rfl dX0_push_11 ?_
  refine lv_aload_n hx hb dX0_push_14 rfl (lv_at hl 0 rfl) ?_
  refine va_get (D := (dC, dI)) (ci := 0) (v := .int (nI dp)) (C := RX0) (T := TX0) (N := 4) hx hb hts (tb_c tbX0) hown hK hP 0 rfl rfl 3 (by decide) (hw _ tw_81) (fun _ h9 => h9) rfl dX0_push_15 ?_
  refine lv_iload_n hx hb dX0_push_18 rfl (lv_at hl 2 rfl) ?_
  refine cx_iast hx hb hK hP hD hS 2 0 rfl rfl (by first | decide | omega) (i := dp) (cI_u) (by first | omega | exact hB _ (by omega) | exact Nat.lt_of_lt_of_le (hB _ (by omega)) (by omega)) dX0_push_19 (fun H locs hP hD hS => ?_)
  have hP : va_P (dC, dI) vwCl [(zv, .inr (0, [.ref z1, .ref z2, .ref z3, .int (nI dp)])), (z1, .inl (kI, 6, .inl (cI (wt_u ct dp n)))), (z2, .inl (kI, 6, .inl (cI (wt_u st dp k)))), (z3, .inl (kI, 6, .inl (cI dt)))] H := hP
  have hD : va_D AA [(zv, .inr (0, [.ref z1, .ref z2, .ref z3, .int (nI dp)])), (z1, .inl (kI, 6, .inl (cI (wt_u ct dp n)))), (z2, .inl (kI, 6, .inl (cI (wt_u st dp k)))), (z3, .inl (kI, 6, .inl (cI dt)))] := hD
  refine lv_aload_n hx hb dX0_push_20 rfl (lv_at hl 0 rfl) ?_
  refine va_get (D := (dC, dI)) (ci := 0) (v := .ref z3) (C := RX0) (T := TX0) (N := 4) hx hb hts (tb_c tbX0) hown hK hP 0 rfl rfl 2 (by decide) (hw _ tw_79) (fun _ h9 => h9) rfl dX0_push_21 ?_
  refine lv_aload_n hx hb dX0_push_24 rfl (lv_at hl 0 rfl) ?_
  refine va_get (D := (dC, dI)) (ci := 0) (v := .int (nI dp)) (C := RX0) (T := TX0) (N := 4) hx hb hts (tb_c tbX0) hown hK hP 0 rfl rfl 3 (by decide) (hw _ tw_81) (fun _ h9 => h9) rfl dX0_push_25 ?_
  refine lv_iload_n hx hb dX0_push_28 rfl (lv_at hl 3 rfl) ?_
  refine cx_iast hx hb hK hP hD hS 3 0 rfl rfl (by first | decide | omega) (i := dp) (cI_u) (by first | omega | exact hB _ (by omega) | exact Nat.lt_of_lt_of_le (hB _ (by omega)) (by omega)) dX0_push_29 (fun H locs hP hD hS => ?_)
  have hP : va_P (dC, dI) vwCl [(zv, .inr (0, [.ref z1, .ref z2, .ref z3, .int (nI dp)])), (z1, .inl (kI, 6, .inl (cI (wt_u ct dp n)))), (z2, .inl (kI, 6, .inl (cI (wt_u st dp k)))), (z3, .inl (kI, 6, .inl (cI (wt_u dt dp d))))] H := hP
  have hD : va_D AA [(zv, .inr (0, [.ref z1, .ref z2, .ref z3, .int (nI dp)])), (z1, .inl (kI, 6, .inl (cI (wt_u ct dp n)))), (z2, .inl (kI, 6, .inl (cI (wt_u st dp k)))), (z3, .inl (kI, 6, .inl (cI (wt_u dt dp d))))] := hD
  refine lv_aload_n hx hb dX0_push_30 rfl (lv_at hl 0 rfl) ?_
  refine lv_dup hx hb dX0_push_31 rfl ?_
  refine va_get (D := (dC, dI)) (ci := 0) (v := .int (nI dp)) (C := RX0) (T := TX0) (N := 4) hx hb hts (tb_c tbX0) hown hK hP 0 rfl rfl 3 (by decide) (hw _ tw_81) (fun _ h9 => h9) rfl dX0_push_32 ?_
  refine lv_iconst (v := nI 1) hx hb dX0_push_35 (by decide) ?_
  refine cx_iadd hx hb dX0_push_36 ?_
  refine va_put (D := (dC, dI)) (ci := 0) (v := .int (nI (dp + 1))) (ty := .int) (C := RX0) (T := TX0) (N := 4) hx hb hts (tb_c tbX0) tyX0 tyX0_ok nmX0 hown hK hP hD hS 0 rfl rfl 3 (by decide) (hw _ tw_81) (fun _ h9 => h9) rfl (by decide +kernel) rfl rfl (Nat.le_of_ble_eq_true rfl) dX0_push_37 (fun H locs hP hD hS => ?_)
  have hP : va_P (dC, dI) vwCl [(zv, .inr (0, [.ref z1, .ref z2, .ref z3, .int (nI (dp + 1))])), (z1, .inl (kI, 6, .inl (cI (wt_u ct dp n)))), (z2, .inl (kI, 6, .inl (cI (wt_u st dp k)))), (z3, .inl (kI, 6, .inl (cI (wt_u dt dp d))))] H := hP
  have hD : va_D AA [(zv, .inr (0, [.ref z1, .ref z2, .ref z3, .int (nI (dp + 1))])), (z1, .inl (kI, 6, .inl (cI (wt_u ct dp n)))), (z2, .inl (kI, 6, .inl (cI (wt_u st dp k)))), (z3, .inl (kI, 6, .inl (cI (wt_u dt dp d))))] := hD
  exact W.vret hx hb hr (fun t ht hW => ⟨⟨(), rfl, trivial, by rw [ht]; exact hP, hD⟩, hS.F ht⟩) hS.2.2 dX0_push_40

set_option maxHeartbeats 4000000 in
set_option maxRecDepth 100000 in
theorem c_X4_ofTerm (l : Launch) (dC : Nat → ClassId) (dI : Nat → Nat → Nat) (kI kL : ClassId) (zw : Nat) (zg : Nat) (w : Nat → Nat) (zc : Nat) (zd : Nat) (f : Nat → Nat) (n : Nat) (i : Nat) (qn : n ≤ 40) (hB : ∀ u, u < n → f u < n) (qi : i < n) : Met l yX4_ofTerm (.code yX4_ofTerm cX4_ofTerm 3 (some .long) :: tbw) { frames := 0, cells := 0, slots := 0, locals := 0 } (va_Pc [.ref zw, .ref zc, .int (nI i)] (cx_R (dC, dI) vwCl [(zw, .inr (4, [.ref zg])), (zg, .inl (kL, 40, .inr (.inl (cL w)))), (zc, .inr (2, [.ref zd])), (zd, .inl (kI, 40, .inl (cI f)))] [(kI, .int), (kL, .long)])) (vp_Sl (fun r => r = lN (w (f i)))) 0 0 (fun _ => False) := by
  refine Met.ofW (cc := cX4_ofTerm) (maxL := 3) (ret := (some .long)) (by decide) rfl ?_
  intro p e s m args below meth c s₁ B hml hv
  obtain ⟨rfl, hP, hK⟩ := hv
  have hx := B.exec
  have hb := B.bytes
  have hr := B.returns
  have hts := atoms_spec (ws := .code yX4_ofTerm cX4_ofTerm 3 (some .long) :: tbw) B.pre
  have hw : ∀ w ∈ tbw, w.before _ s = true := fun w h => hts w (List.mem_cons_of_mem _ h)
  have hown : s.vm.findClass RX4 = some m.cls := findClass_of_methodNamed B.named
  have hP : va_P (dC, dI) vwCl [(zw, .inr (4, [.ref zg])), (zg, .inl (kL, 40, .inr (.inl (cL w)))), (zc, .inr (2, [.ref zd])), (zd, .inl (kI, 40, .inl (cI f)))] s.heap := hP
  have hl := lv_entry ([.ref zw, .ref zc, .int (nI i)]) (n := 3) (Nat.le_of_ble_eq_true rfl)
  rw [lg_entry_eq]
  generalize (lg_sl ([.ref zw, .ref zc, .int (nI i)]) ++ List.replicate (3 - (lg_sl ([.ref zw, .ref zc, .int (nI i)])).length) Slot.unset).toArray = ls at hl ⊢
  have hl : lv_has ls 3 [(0, .ref zw), (1, .ref zc), (2, .int (nI i))] := hl
  refine lv_aload_n hx hb dX4_ofTerm_0 rfl (lv_at hl 0 rfl) ?_
  refine va_get (D := (dC, dI)) (ci := 4) (v := .ref zg) (C := RX4) (T := TX4) (N := 1) hx hb hts (tb_c tbX4) hown hK hP 0 rfl rfl 0 (by decide) (hw _ tw_110) (fun _ h9 => h9) rfl dX4_ofTerm_1 ?_
  refine lv_aload_n hx hb dX4_ofTerm_4 rfl (lv_at hl 1 rfl) ?_
  refine va_get (D := (dC, dI)) (ci := 2) (v := .ref zd) (C := RX2) (T := TX2) (N := 1) hx hb hts (tb_c tbX2) hown hK hP 2 rfl rfl 0 (by decide) (hw _ tw_99) (fun _ h9 => h9) rfl dX4_ofTerm_5 ?_
  refine lv_iload_n hx hb dX4_ofTerm_8 rfl (lv_at hl 2 rfl) ?_
  refine cx_iald hx hb hK hP 3 0 rfl rfl (by first | decide | omega) (v := nI (f i)) (i := i) rfl (by first | omega | exact hB _ (by omega) | exact Nat.lt_of_lt_of_le (hB _ (by omega)) (by omega)) dX4_ofTerm_9 ?_
  refine cx_lald hx hb hK hP 1 1 rfl rfl (by first | decide | omega) (v := lN (w (f i))) (i := (f i)) rfl (by first | omega | exact hB _ (by omega) | exact Nat.lt_of_lt_of_le (hB _ (by omega)) (by omega)) dX4_ofTerm_10 ?_
  exact W.lret (v := lN (w (f i))) hx hb hr (fun t ht hW => ⟨_, rfl, rfl, ht⟩) (fun _ h9 => by cases h9) dX4_ofTerm_11

set_option maxHeartbeats 4000000 in
set_option maxRecDepth 100000 in
theorem c_X4_ofArgument (l : Launch) (dC : Nat → ClassId) (dI : Nat → Nat → Nat) (kI kL : ClassId) (zw : Nat) (zg : Nat) (w : Nat → Nat) (zc : Nat) (zd : Nat) (f : Nat → Nat) (n : Nat) (x : Nat) (qn : n ≤ 40) (hB : ∀ u, u < n → f u < n) (qx : x ≤ n) : Met l yX4_ofArgument (.code yX4_ofArgument cX4_ofArgument 3 (some .long) :: tbw) { frames := 1, cells := 0, slots := 0, locals := 22 } (va_Pc [.ref zw, .ref zc, .int (aI x)] (cx_R (dC, dI) vwCl [(zw, .inr (4, [.ref zg])), (zg, .inl (kL, 40, .inr (.inl (cL w)))), (zc, .inr (2, [.ref zd])), (zd, .inl (kI, 40, .inl (cI f)))] [(kI, .int), (kL, .long)])) (vp_Sl (fun r => r = lN (wt_a f w x))) 0 0 (fun _ => False) := by
  refine Met.ofW (cc := cX4_ofArgument) (maxL := 3) (ret := (some .long)) (by decide) rfl ?_
  intro p e s m args below meth c s₁ B hml hv
  obtain ⟨rfl, hP, hK⟩ := hv
  have hx := B.exec
  have hb := B.bytes
  have hr := B.returns
  have hts := atoms_spec (ws := .code yX4_ofArgument cX4_ofArgument 3 (some .long) :: tbw) B.pre
  have hw : ∀ w ∈ tbw, w.before _ s = true := fun w h => hts w (List.mem_cons_of_mem _ h)
  have hown : s.vm.findClass RX4 = some m.cls := findClass_of_methodNamed B.named
  have hP : va_P (dC, dI) vwCl [(zw, .inr (4, [.ref zg])), (zg, .inl (kL, 40, .inr (.inl (cL w)))), (zc, .inr (2, [.ref zd])), (zd, .inl (kI, 40, .inl (cI f)))] s.heap := hP
  have hl := lv_entry ([.ref zw, .ref zc, .int (aI x)]) (n := 3) (Nat.le_of_ble_eq_true rfl)
  rw [lg_entry_eq]
  generalize (lg_sl ([.ref zw, .ref zc, .int (aI x)]) ++ List.replicate (3 - (lg_sl ([.ref zw, .ref zc, .int (aI x)])).length) Slot.unset).toArray = ls at hl ⊢
  have hl : lv_has ls 3 [(0, .ref zw), (1, .ref zc), (2, .int (aI x))] := hl
  refine lv_iload_n hx hb dX4_ofArgument_0 rfl (lv_at hl 2 rfl) ?_
  refine lv_iconst (v := (-1)) hx hb dX4_ofArgument_1 (by decide) ?_
  refine cx_ane (x := x) (y := 0) (tgt := 9) hx hb dX4_ofArgument_2 (by decide) (by first | omega | exact hB _ (by omega) | exact Nat.lt_of_lt_of_le (hB _ (by omega)) (by omega)) (by first | omega | exact hB _ (by omega) | exact Nat.lt_of_lt_of_le (hB _ (by omega)) (by omega)) (fun b0 => ?_) (fun b0 => ?_)
  · skip
    obtain ⟨x1, rfl⟩ := cx_suc b0
    refine lv_aload_n hx hb dX4_ofArgument_9 rfl (lv_at hl 0 rfl) ?_
    refine lv_aload_n hx hb dX4_ofArgument_10 rfl (lv_at hl 1 rfl) ?_
    refine lv_iload_n hx hb dX4_ofArgument_11 rfl (lv_at hl 2 rfl) ?_
    refine cx_sl (va_runV (As := [.ref zc, .int (nI x1)]) (rest := []) ⟨hx, hb, hml, hown, hts⟩ (c_X4_ofTerm l dC dI kI kL zw zg w zc zd f n x1 (by first | assumption | omega | rfl) (by first | assumption | omega | rfl) (by first | assumption | omega | rfl)) (cwV 2 hts gv_X4_53 rfl rfl rfl hdX4_ofTerm ⟨Nat.le_of_ble_eq_true rfl, Nat.le_of_ble_eq_true rfl⟩) (cx_preV (hP.sub (ws' := [(zw, .inr (4, [.ref zg])), (zg, .inl (kL, 40, .inr (.inl (cL w)))), (zc, .inr (2, [.ref zd])), (zd, .inl (kI, 40, .inl (cI f)))]) [0, 1, 2, 3] rfl) hK rfl (q0 := 0) rfl) rfl rfl hl.1 rfl (lv_room (Nat.le_of_ble_eq_true rfl)) dX4_ofArgument_12 ⟨Nat.zero_le _, Nat.zero_le _⟩) (fun r hres => ?_)
    subst hres
    exact W.lret (v := lN (w (f x1))) hx hb hr (fun t ht hW => ⟨_, rfl, rfl, ht⟩) (fun _ h9 => by cases h9) dX4_ofArgument_15
  refine lv_lconst (v := lN 0) hx hb dX4_ofArgument_5 (by decide) ?_
  refine lv_goto (tgt := 15) hx hb dX4_ofArgument_6 (by decide) ?_
  exact W.lret (v := lN 0) hx hb hr (fun t ht hW => ⟨_, rfl, by rw [b0]; rfl, ht⟩) (fun _ h9 => by cases h9) dX4_ofArgument_15

set_option maxHeartbeats 4000000 in
set_option maxRecDepth 100000 in
theorem c_X4_costOf (l : Launch) (dC : Nat → ClassId) (dI : Nat → Nat → Nat) (kI kL : ClassId) (zw : Nat) (zg : Nat) (w : Nat → Nat) (zc : Nat) (zd : Nat) (f : Nat → Nat) (zt : Nat) (zs : Nat) (zf : Nat) (ze : Nat) (n : Nat) (S : Nat → Int32) (F : Nat → Nat) (E : Nat → Nat) (i : Nat) (qn : n ≤ 40) (hB : ∀ u, u < n → f u < n) (qw : cg_wf (S, F, E) n) (qi : i < n) : Met l yX4_costOf (.code yX4_costOf cX4_costOf 4 (some .long) :: tbw) { frames := 2, cells := 0, slots := 0, locals := 44 } (va_Pc [.ref zw, .ref zt, .ref zc, .int (nI i)] (cx_R (dC, dI) vwCl [(zw, .inr (4, [.ref zg])), (zg, .inl (kL, 40, .inr (.inl (cL w)))), (zc, .inr (2, [.ref zd])), (zd, .inl (kI, 40, .inl (cI f))), (zt, .inr (3, [.ref zs, .ref zf, .ref ze, .int (nI n)])), (zs, .inl (kI, 40, .inl S)), (zf, .inl (kI, 40, .inl (cA F))), (ze, .inl (kI, 40, .inl (cA E)))] [(kI, .int), (kL, .long)])) (vp_Sl (fun r => r = lN (wt_c (S, F, E) f w i))) 0 0 (fun _ => False) := by
  refine Met.ofW (cc := cX4_costOf) (maxL := 4) (ret := (some .long)) (by decide) rfl ?_
  intro p e s m args below meth c s₁ B hml hv
  obtain ⟨rfl, hP, hK⟩ := hv
  have hx := B.exec
  have hb := B.bytes
  have hr := B.returns
  have hts := atoms_spec (ws := .code yX4_costOf cX4_costOf 4 (some .long) :: tbw) B.pre
  have hw : ∀ w ∈ tbw, w.before _ s = true := fun w h => hts w (List.mem_cons_of_mem _ h)
  have hown : s.vm.findClass RX4 = some m.cls := findClass_of_methodNamed B.named
  have hP : va_P (dC, dI) vwCl [(zw, .inr (4, [.ref zg])), (zg, .inl (kL, 40, .inr (.inl (cL w)))), (zc, .inr (2, [.ref zd])), (zd, .inl (kI, 40, .inl (cI f))), (zt, .inr (3, [.ref zs, .ref zf, .ref ze, .int (nI n)])), (zs, .inl (kI, 40, .inl S)), (zf, .inl (kI, 40, .inl (cA F))), (ze, .inl (kI, 40, .inl (cA E)))] s.heap := hP
  have hl := lv_entry ([.ref zw, .ref zt, .ref zc, .int (nI i)]) (n := 4) (Nat.le_of_ble_eq_true rfl)
  rw [lg_entry_eq]
  generalize (lg_sl ([.ref zw, .ref zt, .ref zc, .int (nI i)]) ++ List.replicate (4 - (lg_sl ([.ref zw, .ref zt, .ref zc, .int (nI i)])).length) Slot.unset).toArray = ls at hl ⊢
  have hl : lv_has ls 4 [(0, .ref zw), (1, .ref zt), (2, .ref zc), (3, .int (nI i))] := hl
  refine lv_lconst (v := lN 1) hx hb dX4_costOf_0 (by decide) ?_
  refine lv_aload_n hx hb dX4_costOf_1 rfl (lv_at hl 0 rfl) ?_
  refine lv_aload_n hx hb dX4_costOf_2 rfl (lv_at hl 2 rfl) ?_
  refine lv_aload_n hx hb dX4_costOf_3 rfl (lv_at hl 1 rfl) ?_
  refine va_get (D := (dC, dI)) (ci := 3) (v := .ref zf) (C := RX3) (T := TX3) (N := 4) hx hb hts (tb_c tbX3) hown hK hP 4 rfl rfl 1 (by decide) (hw _ tw_28) (fun _ h9 => h9) rfl dX4_costOf_4 ?_
  refine lv_iload_n hx hb dX4_costOf_7 rfl (lv_at hl 3 rfl) ?_
  refine cx_iald hx hb hK hP 6 0 rfl rfl (by first | decide | omega) (v := aI (F i)) (i := i) rfl (by first | omega | exact hB _ (by omega) | exact Nat.lt_of_lt_of_le (hB _ (by omega)) (by omega)) dX4_costOf_8 ?_
  refine cx_sl (va_runV (As := [.ref zc, .int (aI (F i))]) (rest := [.long (lN 1)]) ⟨hx, hb, hml, hown, hts⟩ (c_X4_ofArgument l dC dI kI kL zw zg w zc zd f n (F i) (by first | assumption | omega | rfl) (by first | assumption | omega | rfl) (by have := qw i qi; simp only at this; omega)) (cwV 2 hts gv_X4_46 rfl rfl rfl hdX4_ofArgument ⟨Nat.le_of_ble_eq_true rfl, Nat.le_of_ble_eq_true rfl⟩) (cx_preV (hP.sub (ws' := [(zw, .inr (4, [.ref zg])), (zg, .inl (kL, 40, .inr (.inl (cL w)))), (zc, .inr (2, [.ref zd])), (zd, .inl (kI, 40, .inl (cI f)))]) [0, 1, 2, 3] rfl) hK rfl (q0 := 0) rfl) rfl rfl hl.1 rfl (lv_room (Nat.le_of_ble_eq_true rfl)) dX4_costOf_9 ⟨Nat.zero_le _, Nat.zero_le _⟩) (fun r hres => ?_)
  subst hres
  refine cx_ladd hx hb dX4_costOf_12 ?_
  refine lv_aload_n hx hb dX4_costOf_13 rfl (lv_at hl 0 rfl) ?_
  refine lv_aload_n hx hb dX4_costOf_14 rfl (lv_at hl 2 rfl) ?_
  refine lv_aload_n hx hb dX4_costOf_15 rfl (lv_at hl 1 rfl) ?_
  refine va_get (D := (dC, dI)) (ci := 3) (v := .ref ze) (C := RX3) (T := TX3) (N := 4) hx hb hts (tb_c tbX3) hown hK hP 4 rfl rfl 2 (by decide) (hw _ tw_31) (fun _ h9 => h9) rfl dX4_costOf_16 ?_
  refine lv_iload_n hx hb dX4_costOf_19 rfl (lv_at hl 3 rfl) ?_
  refine cx_iald hx hb hK hP 7 0 rfl rfl (by first | decide | omega) (v := aI (E i)) (i := i) rfl (by first | omega | exact hB _ (by omega) | exact Nat.lt_of_lt_of_le (hB _ (by omega)) (by omega)) dX4_costOf_20 ?_
  refine cx_sl (va_runV (As := [.ref zc, .int (aI (E i))]) (rest := [.long (lN (1 + (wt_a f w (F i))))]) ⟨hx, hb, hml, hown, hts⟩ (c_X4_ofArgument l dC dI kI kL zw zg w zc zd f n (E i) (by first | assumption | omega | rfl) (by first | assumption | omega | rfl) (by have := qw i qi; simp only at this; omega)) (cwV 2 hts gv_X4_46 rfl rfl rfl hdX4_ofArgument ⟨Nat.le_of_ble_eq_true rfl, Nat.le_of_ble_eq_true rfl⟩) (cx_preV (hP.sub (ws' := [(zw, .inr (4, [.ref zg])), (zg, .inl (kL, 40, .inr (.inl (cL w)))), (zc, .inr (2, [.ref zd])), (zd, .inl (kI, 40, .inl (cI f)))]) [0, 1, 2, 3] rfl) hK rfl (q0 := 0) rfl) rfl rfl hl.1 rfl (lv_room (Nat.le_of_ble_eq_true rfl)) dX4_costOf_21 ⟨Nat.zero_le _, Nat.zero_le _⟩) (fun r hres => ?_)
  subst hres
  refine cx_ladd hx hb dX4_costOf_24 ?_
  exact W.lret (v := lN ((1 + (wt_a f w (F i))) + (wt_a f w (E i)))) hx hb hr (fun t ht hW => ⟨_, rfl, rfl, ht⟩) (fun _ h9 => by cases h9) dX4_costOf_25
end
section
set_option maxHeartbeats 4000000 in
set_option maxRecDepth 100000 in
theorem c_X4_lower (l : Launch) (dC : Nat → ClassId) (dI : Nat → Nat → Nat) (kI kL : ClassId) (zw : Nat) (zg : Nat) (w : Nat → Nat) (zc : Nat) (zd : Nat) (f : Nat → Nat) (zt : Nat) (zs : Nat) (zf : Nat) (ze : Nat) (n : Nat) (S : Nat → Int32) (F : Nat → Nat) (E : Nat → Nat) (qn : n ≤ 40) (hB : ∀ u, u < n → f u < n) (qw : cg_wf (S, F, E) n) (hW : ∀ j, w j ≤ 2 ^ 60) (sz : Nat) : Met l yX4_lower (.code yX4_lower cX4_lower 7 (some .boolean) :: tbw) { frames := 3, cells := 0, slots := 0, locals := 67 } (va_Pc [.ref zw, .ref zt, .ref zc] (cx_M (dC, dI) vwCl [(zw, .inr (4, [.ref zg])), (zg, .inl (kL, 40, .inr (.inl (cL w)))), (zc, .inr (2, [.ref zd])), (zd, .inl (kI, 40, .inl (cI f))), (zt, .inr (3, [.ref zs, .ref zf, .ref ze, .int (nI n)])), (zs, .inl (kI, 40, .inl S)), (zf, .inl (kI, 40, .inl (cA F))), (ze, .inl (kI, 40, .inl (cA E)))] [(kI, .int), (kL, .long)] sz)) (va_Qi (fun (r : Int32) (u : Unit) => r = bI ((wt_r (S, F, E) f n w).2)) (cx_B (dC, dI) vwCl (va_A [(zw, .inr (4, [.ref zg])), (zg, .inl (kL, 40, .inr (.inl (cL w)))), (zc, .inr (2, [.ref zd])), (zd, .inl (kI, 40, .inl (cI f))), (zt, .inr (3, [.ref zs, .ref zf, .ref ze, .int (nI n)])), (zs, .inl (kI, 40, .inl S)), (zf, .inl (kI, 40, .inl (cA F))), (ze, .inl (kI, 40, .inl (cA E)))] sz) (fun u : Unit => [(zw, .inr (4, [.ref zg])), (zg, .inl (kL, 40, .inr (.inl (cL ((wt_r (S, F, E) f n w).1))))), (zc, .inr (2, [.ref zd])), (zd, .inl (kI, 40, .inl (cI f))), (zt, .inr (3, [.ref zs, .ref zf, .ref ze, .int (nI n)])), (zs, .inl (kI, 40, .inl S)), (zf, .inl (kI, 40, .inl (cA F))), (ze, .inl (kI, 40, .inl (cA E)))])) (va_A [(zw, .inr (4, [.ref zg])), (zg, .inl (kL, 40, .inr (.inl (cL w)))), (zc, .inr (2, [.ref zd])), (zd, .inl (kI, 40, .inl (cI f))), (zt, .inr (3, [.ref zs, .ref zf, .ref ze, .int (nI n)])), (zs, .inl (kI, 40, .inl S)), (zf, .inl (kI, 40, .inl (cA F))), (ze, .inl (kI, 40, .inl (cA E)))] sz)) 0 0 (va_A [(zw, .inr (4, [.ref zg])), (zg, .inl (kL, 40, .inr (.inl (cL w)))), (zc, .inr (2, [.ref zd])), (zd, .inl (kI, 40, .inl (cI f))), (zt, .inr (3, [.ref zs, .ref zf, .ref ze, .int (nI n)])), (zs, .inl (kI, 40, .inl S)), (zf, .inl (kI, 40, .inl (cA F))), (ze, .inl (kI, 40, .inl (cA E)))] sz) := by
  refine Met.ofW (cc := cX4_lower) (maxL := 7) (ret := (some .boolean)) (by decide) rfl ?_
  intro p e s m args below meth c s₁ B hml hv
  obtain ⟨rfl, hsz, hP, hK, hD0⟩ := hv
  have hx := B.exec
  have hb := B.bytes
  have hr := B.returns
  have hts := atoms_spec (ws := .code yX4_lower cX4_lower 7 (some .boolean) :: tbw) B.pre
  have hw : ∀ w ∈ tbw, w.before _ s = true := fun w h => hts w (List.mem_cons_of_mem _ h)
  have hown : s.vm.findClass RX4 = some m.cls := findClass_of_methodNamed B.named
  subst hsz
  have hD := hD0.self (sz := s.heap.size)
  generalize hAe : va_A [(zw, .inr (4, [.ref zg])), (zg, .inl (kL, 40, .inr (.inl (cL w)))), (zc, .inr (2, [.ref zd])), (zd, .inl (kI, 40, .inl (cI f))), (zt, .inr (3, [.ref zs, .ref zf, .ref ze, .int (nI n)])), (zs, .inl (kI, 40, .inl S)), (zf, .inl (kI, 40, .inl (cA F))), (ze, .inl (kI, 40, .inl (cA E)))] s.heap.size = AA at hD ⊢
  have hA : ∀ q : Nat, s.heap.size ≤ q → AA q := fun q h => by rw [← hAe]; exact Or.inr h
  have hS : va_S AA s.heap s.heap [] := va_S.rf
  have hP : va_P (dC, dI) vwCl [(zw, .inr (4, [.ref zg])), (zg, .inl (kL, 40, .inr (.inl (cL w)))), (zc, .inr (2, [.ref zd])), (zd, .inl (kI, 40, .inl (cI f))), (zt, .inr (3, [.ref zs, .ref zf, .ref ze, .int (nI n)])), (zs, .inl (kI, 40, .inl S)), (zf, .inl (kI, 40, .inl (cA F))), (ze, .inl (kI, 40, .inl (cA E)))] s.heap := hP
  have hl := lv_entry ([.ref zw, .ref zt, .ref zc]) (n := 7) (Nat.le_of_ble_eq_true rfl)
  rw [lg_entry_eq]
  generalize (lg_sl ([.ref zw, .ref zt, .ref zc]) ++ List.replicate (7 - (lg_sl ([.ref zw, .ref zt, .ref zc])).length) Slot.unset).toArray = ls at hl ⊢
  have hl : lv_has ls 7 [(0, .ref zw), (1, .ref zt), (2, .ref zc)] := hl
  refine lv_iconst (v := nI 0) hx hb dX4_lower_0 (by decide) ?_
  refine lv_istore_n hx hb dX4_lower_1 rfl hl (by decide) rfl (fun ls hl => ?_)
  have hl : lv_has ls 7 [(3, .int (nI 0)), (0, .ref zw), (1, .ref zt), (2, .ref zc)] := hl
  refine lv_iconst (v := nI 0) hx hb dX4_lower_2 (by decide) ?_
  refine lv_istore hx hb dX4_lower_3 hl (by decide) rfl (fun ls hl => ?_)
  have hl : lv_has ls 7 [(4, .int (nI 0)), (3, .int (nI 0)), (0, .ref zw), (1, .ref zt), (2, .ref zc)] := hl
  refine cx_loop3 (fun (v : Nat) (ch : Bool) (g : Nat → Nat) (H : Heap) (locs : List Loc) (ls : Array Slot) => lv_has ls 7 [(3, .int (bI ch)), (4, .int (nI v)), (0, .ref zw), (1, .ref zt), (2, .ref zc)] ∧ va_P (dC, dI) vwCl [(zw, .inr (4, [.ref zg])), (zg, .inl (kL, 40, .inr (.inl (cL g)))), (zc, .inr (2, [.ref zd])), (zd, .inl (kI, 40, .inl (cI f))), (zt, .inr (3, [.ref zs, .ref zf, .ref ze, .int (nI n)])), (zs, .inl (kI, 40, .inl S)), (zf, .inl (kI, 40, .inl (cA F))), (ze, .inl (kI, 40, .inl (cA E)))] H ∧ va_D AA [(zw, .inr (4, [.ref zg])), (zg, .inl (kL, 40, .inr (.inl (cL g)))), (zc, .inr (2, [.ref zd])), (zd, .inl (kI, 40, .inl (cI f))), (zt, .inr (3, [.ref zs, .ref zf, .ref ze, .int (nI n)])), (zs, .inl (kI, 40, .inl S)), (zf, .inl (kI, 40, .inl (cA F))), (ze, .inl (kI, 40, .inl (cA E)))] ∧ va_S AA s.heap H locs ∧ (v ≤ n) ∧ ((g, ch) = wt_o (S, F, E) f (w, false) v)) (fun v ch g => n - v) (fun v ch g H locs ls hI ih1 => ?_) 0 false w ⟨lv_sub hl [1, 0, 2, 3, 4] rfl, hP, hD, hS, (by first | assumption | omega | rfl), (rfl)⟩
  obtain ⟨hl, hP, hD, hS, hv1, hg⟩ := hI
  refine lv_iload hx hb dX4_lower_5 (lv_at hl 1 rfl) ?_
  refine lv_aload_n hx hb dX4_lower_7 rfl (lv_at hl 3 rfl) ?_
  refine va_get (D := (dC, dI)) (ci := 3) (v := .int (nI n)) (C := RX3) (T := TX3) (N := 4) hx hb hts (tb_c tbX3) hown hK hP 4 rfl rfl 3 (by decide) (hw _ tw_34) (fun _ h9 => h9) rfl dX4_lower_8 ?_
  refine cx_ge (x := v) (y := n) (tgt := 64) hx hb dX4_lower_11 (by decide) (by first | omega | exact hB _ (by omega) | exact Nat.lt_of_lt_of_le (hB _ (by omega)) (by omega)) (by first | omega | exact hB _ (by omega) | exact Nat.lt_of_lt_of_le (hB _ (by omega)) (by omega)) (fun b0 => ?_) (fun b0 => ?_)
  · skip
    have e5 : (g, ch) = wt_r (S, F, E) f n w := by rw [hg, Nat.le_antisymm hv1 b0]; rfl
    obtain rfl := (congrArg Prod.fst e5 : g = (wt_r (S, F, E) f n w).1)
    obtain rfl := (congrArg Prod.snd e5 : ch = (wt_r (S, F, E) f n w).2)
    refine lv_iload_n hx hb dX4_lower_64 rfl (lv_at hl 0 rfl) ?_
    exact W.zret (v := bI ((wt_r (S, F, E) f n w).2)) hx hb hr (cx_narB _) (fun t ht hW => ⟨⟨_, (), rfl, rfl, by rw [ht]; exact hP, hD⟩, hS.F ht⟩) hS.2.2 dX4_lower_65
  have e1 := wt_o_u hg hW
  have e2 := wt_c_b (T := (S, F, E)) (L := f) e1 v
  have e3 := e1 (f v)
  refine lv_aload_n hx hb dX4_lower_14 rfl (lv_at hl 2 rfl) ?_
  refine lv_aload_n hx hb dX4_lower_15 rfl (lv_at hl 3 rfl) ?_
  refine lv_aload_n hx hb dX4_lower_16 rfl (lv_at hl 4 rfl) ?_
  refine lv_iload hx hb dX4_lower_17 (lv_at hl 1 rfl) ?_
  refine cx_sl (va_runV (As := [.ref zt, .ref zc, .int (nI v)]) (rest := []) ⟨hx, hb, hml, hown, hts⟩ (c_X4_costOf l dC dI kI kL zw zg g zc zd f zt zs zf ze n S F E v (by first | assumption | omega | rfl) (by first | assumption | omega | rfl) (by first | assumption | omega | rfl) (by first | assumption | omega | rfl)) (cwV 3 hts gv_X4_33 rfl rfl rfl hdX4_costOf ⟨Nat.le_of_ble_eq_true rfl, Nat.le_of_ble_eq_true rfl⟩) (cx_preV (hP.sub (ws' := [(zw, .inr (4, [.ref zg])), (zg, .inl (kL, 40, .inr (.inl (cL g)))), (zc, .inr (2, [.ref zd])), (zd, .inl (kI, 40, .inl (cI f))), (zt, .inr (3, [.ref zs, .ref zf, .ref ze, .int (nI n)])), (zs, .inl (kI, 40, .inl S)), (zf, .inl (kI, 40, .inl (cA F))), (ze, .inl (kI, 40, .inl (cA E)))]) [0, 1, 2, 3, 4, 5, 6, 7] rfl) hK rfl (q0 := 0) rfl) rfl rfl hl.1 rfl (lv_room (Nat.le_of_ble_eq_true rfl)) dX4_lower_19 ⟨Nat.zero_le _, Nat.zero_le _⟩) (fun r hres => ?_)
  subst hres
  refine lv_lstore hx hb dX4_lower_22 hl (by decide) rfl (fun ls hl => ?_)
  have hl : lv_has ls 7 [(5, .long (lN (wt_c (S, F, E) f g v))), (3, .int (bI ch)), (4, .int (nI v)), (0, .ref zw), (1, .ref zt), (2, .ref zc)] := hl
  refine lv_lload hx hb dX4_lower_24 (lv_at hl 0 rfl) ?_
  refine lv_aload_n hx hb dX4_lower_26 rfl (lv_at hl 3 rfl) ?_
  refine va_get (D := (dC, dI)) (ci := 4) (v := .ref zg) (C := RX4) (T := TX4) (N := 1) hx hb hts (tb_c tbX4) hown hK hP 0 rfl rfl 0 (by decide) (hw _ tw_110) (fun _ h9 => h9) rfl dX4_lower_27 ?_
  refine lv_aload_n hx hb dX4_lower_30 rfl (lv_at hl 5 rfl) ?_
  refine va_get (D := (dC, dI)) (ci := 2) (v := .ref zd) (C := RX2) (T := TX2) (N := 1) hx hb hts (tb_c tbX2) hown hK hP 2 rfl rfl 0 (by decide) (hw _ tw_99) (fun _ h9 => h9) rfl dX4_lower_31 ?_
  refine lv_iload hx hb dX4_lower_34 (lv_at hl 2 rfl) ?_
  refine cx_iald hx hb hK hP 3 0 rfl rfl (by first | decide | omega) (v := nI (f v)) (i := v) rfl (by first | omega | exact hB _ (by omega) | exact Nat.lt_of_lt_of_le (hB _ (by omega)) (by omega)) dX4_lower_36 ?_
  refine cx_lald hx hb hK hP 1 1 rfl rfl (by first | decide | omega) (v := lN (g (f v))) (i := (f v)) rfl (by first | omega | exact hB _ (by omega) | exact Nat.lt_of_lt_of_le (hB _ (by omega)) (by omega)) dX4_lower_37 ?_
  refine cx_lge (tgt := 58) hx hb dX4_lower_38 dX4_lower_39 (by decide) (by first | omega | exact hB _ (by omega) | exact Nat.lt_of_lt_of_le (hB _ (by omega)) (by omega)) (by first | omega | exact hB _ (by omega) | exact Nat.lt_of_lt_of_le (hB _ (by omega)) (by omega)) (fun b1 => ?_) (fun b1 => ?_)
  · skip
    refine lv_iinc (k := 2) (v := nI (v + 1)) hx hb dX4_lower_58 hl rfl cx_inc1 (by decide) rfl (fun ls hl => ?_)
    have hl : lv_has ls 7 [(4, .int (nI (v + 1))), (5, .long (lN (wt_c (S, F, E) f g v))), (3, .int (bI ch)), (0, .ref zw), (1, .ref zt), (2, .ref zc)] := hl
    refine lv_goto (tgt := 5) hx hb dX4_lower_61 (by decide) ?_
    exact ih1 (v + 1) ch g _ _ _ ⟨lv_sub hl [2, 0, 3, 4, 5] rfl, hP, hD, hS, (by first | assumption | omega | rfl), (by first | exact wt_o_y hg b1 | exact wt_o_n hg b1)⟩ (by show n - (v + 1) < n - v; omega)
  refine lv_aload_n hx hb dX4_lower_42 rfl (lv_at hl 3 rfl) ?_
  refine va_get (D := (dC, dI)) (ci := 4) (v := .ref zg) (C := RX4) (T := TX4) (N := 1) hx hb hts (tb_c tbX4) hown hK hP 0 rfl rfl 0 (by decide) (hw _ tw_110) (fun _ h9 => h9) rfl dX4_lower_43 ?_
  refine lv_aload_n hx hb dX4_lower_46 rfl (lv_at hl 5 rfl) ?_
  refine va_get (D := (dC, dI)) (ci := 2) (v := .ref zd) (C := RX2) (T := TX2) (N := 1) hx hb hts (tb_c tbX2) hown hK hP 2 rfl rfl 0 (by decide) (hw _ tw_99) (fun _ h9 => h9) rfl dX4_lower_47 ?_
  refine lv_iload hx hb dX4_lower_50 (lv_at hl 2 rfl) ?_
  refine cx_iald hx hb hK hP 3 0 rfl rfl (by first | decide | omega) (v := nI (f v)) (i := v) rfl (by first | omega | exact hB _ (by omega) | exact Nat.lt_of_lt_of_le (hB _ (by omega)) (by omega)) dX4_lower_52 ?_
  refine lv_lload hx hb dX4_lower_53 (lv_at hl 0 rfl) ?_
  refine cx_last hx hb hK hP hD hS 1 1 rfl rfl (by first | decide | omega) (i := (f v)) (cL_u) (by first | omega | exact hB _ (by omega) | exact Nat.lt_of_lt_of_le (hB _ (by omega)) (by omega)) dX4_lower_55 (fun H locs hP hD hS => ?_)
  have hP : va_P (dC, dI) vwCl [(zw, .inr (4, [.ref zg])), (zg, .inl (kL, 40, .inr (.inl (cL (wt_u g (f v) (wt_c (S, F, E) f g v)))))), (zc, .inr (2, [.ref zd])), (zd, .inl (kI, 40, .inl (cI f))), (zt, .inr (3, [.ref zs, .ref zf, .ref ze, .int (nI n)])), (zs, .inl (kI, 40, .inl S)), (zf, .inl (kI, 40, .inl (cA F))), (ze, .inl (kI, 40, .inl (cA E)))] H := hP
  have hD : va_D AA [(zw, .inr (4, [.ref zg])), (zg, .inl (kL, 40, .inr (.inl (cL (wt_u g (f v) (wt_c (S, F, E) f g v)))))), (zc, .inr (2, [.ref zd])), (zd, .inl (kI, 40, .inl (cI f))), (zt, .inr (3, [.ref zs, .ref zf, .ref ze, .int (nI n)])), (zs, .inl (kI, 40, .inl S)), (zf, .inl (kI, 40, .inl (cA F))), (ze, .inl (kI, 40, .inl (cA E)))] := hD
  refine lv_iconst (v := nI 1) hx hb dX4_lower_56 (by decide) ?_
  refine lv_istore_n hx hb dX4_lower_57 rfl hl (by decide) rfl (fun ls hl => ?_)
  have hl : lv_has ls 7 [(3, .int (nI 1)), (5, .long (lN (wt_c (S, F, E) f g v))), (4, .int (nI v)), (0, .ref zw), (1, .ref zt), (2, .ref zc)] := hl
  refine lv_iinc (k := 2) (v := nI (v + 1)) hx hb dX4_lower_58 hl rfl cx_inc1 (by decide) rfl (fun ls hl => ?_)
  have hl : lv_has ls 7 [(4, .int (nI (v + 1))), (3, .int (nI 1)), (5, .long (lN (wt_c (S, F, E) f g v))), (0, .ref zw), (1, .ref zt), (2, .ref zc)] := hl
  refine lv_goto (tgt := 5) hx hb dX4_lower_61 (by decide) ?_
  exact ih1 (v + 1) true (wt_u g (f v) (wt_c (S, F, E) f g v)) _ _ _ ⟨lv_sub hl [1, 0, 3, 4, 5] rfl, hP, hD, hS, (by first | assumption | omega | rfl), (by first | exact wt_o_y hg b1 | exact wt_o_n hg b1)⟩ (by show n - (v + 1) < n - v; omega)

set_option maxHeartbeats 4000000 in
set_option maxRecDepth 100000 in
theorem c_Ar_fill (l : Launch) (dC : Nat → ClassId) (dI : Nat → Nat → Nat) (kI kL : ClassId) (zg : Nat) (w : Nat → Nat) (y : Nat) (sz : Nat) : Met l yAr_fill (.code yAr_fill cAr_fill 5 none :: tbw) { frames := 0, cells := 0, slots := 0, locals := 0 } (va_Pc [.ref zg, .long (lN y)] (cx_M (dC, dI) vwCl [(zg, .inl (kL, 40, .inr (.inl (cL w))))] [(kI, .int), (kL, .long)] sz)) (va_Qv (fun (u : Unit) => True) (cx_B (dC, dI) vwCl (va_A [(zg, .inl (kL, 40, .inr (.inl (cL w))))] sz) (fun u : Unit => [(zg, .inl (kL, 40, .inr (.inl (cL (fun _ => y)))))])) (va_A [(zg, .inl (kL, 40, .inr (.inl (cL w))))] sz)) 0 0 (va_A [(zg, .inl (kL, 40, .inr (.inl (cL w))))] sz) := by
  refine Met.ofW (cc := cAr_fill) (maxL := 5) (ret := none) (by decide) rfl ?_
  intro p e s m args below meth c s₁ B hml hv
  obtain ⟨rfl, hsz, hP, hK, hD0⟩ := hv
  have hx := B.exec
  have hb := B.bytes
  have hr := B.returns
  have hts := atoms_spec (ws := .code yAr_fill cAr_fill 5 none :: tbw) B.pre
  have hw : ∀ w ∈ tbw, w.before _ s = true := fun w h => hts w (List.mem_cons_of_mem _ h)
  have hown : s.vm.findClass RAr = some m.cls := findClass_of_methodNamed B.named
  subst hsz
  have hD := hD0.self (sz := s.heap.size)
  generalize hAe : va_A [(zg, .inl (kL, 40, .inr (.inl (cL w))))] s.heap.size = AA at hD ⊢
  have hA : ∀ q : Nat, s.heap.size ≤ q → AA q := fun q h => by rw [← hAe]; exact Or.inr h
  have hS : va_S AA s.heap s.heap [] := va_S.rf
  have hP : va_P (dC, dI) vwCl [(zg, .inl (kL, 40, .inr (.inl (cL w))))] s.heap := hP
  have hl := lv_entry ([.ref zg, .long (lN y)]) (n := 5) (Nat.le_of_ble_eq_true rfl)
  rw [lg_entry_eq]
  generalize (lg_sl ([.ref zg, .long (lN y)]) ++ List.replicate (5 - (lg_sl ([.ref zg, .long (lN y)])).length) Slot.unset).toArray = ls at hl ⊢
  have hl : lv_has ls 5 [(0, .ref zg), (1, .long (lN y))] := hl
  refine lv_iconst (v := nI 0) hx hb dAr_fill_0 (by decide) ?_
  refine lv_istore_n hx hb dAr_fill_1 rfl hl (by decide) rfl (fun ls hl => ?_)
  have hl : lv_has ls 5 [(3, .int (nI 0)), (0, .ref zg), (1, .long (lN y))] := hl
  refine lv_aload_n hx hb dAr_fill_2 rfl (lv_at hl 1 rfl) ?_
  refine va_alen hx hb hK hP 0 1 rfl rfl (v := nI 40) rfl dAr_fill_3 ?_
  refine lv_istore hx hb dAr_fill_4 hl (by decide) rfl (fun ls hl => ?_)
  have hl : lv_has ls 5 [(4, .int (nI 40)), (3, .int (nI 0)), (0, .ref zg), (1, .long (lN y))] := hl
  refine cx_loop2 (fun (v : Nat) (g : Nat → Nat) (H : Heap) (locs : List Loc) (ls : Array Slot) => lv_has ls 5 [(3, .int (nI v)), (0, .ref zg), (1, .long (lN y)), (4, .int (nI 40))] ∧ va_P (dC, dI) vwCl [(zg, .inl (kL, 40, .inr (.inl (cL g))))] H ∧ va_D AA [(zg, .inl (kL, 40, .inr (.inl (cL g))))] ∧ va_S AA s.heap H locs ∧ (v ≤ 40) ∧ (∀ u, u < v → g u = y)) (fun v g => 40 - v) (fun v g H locs ls hI ih1 => ?_) 0 w ⟨lv_sub hl [1, 2, 3, 0] rfl, hP, hD, hS, (by first | assumption | omega | rfl), (fun u h => absurd h (Nat.not_lt_zero u))⟩
  obtain ⟨hl, hP, hD, hS, hv1, hg⟩ := hI
  refine lv_iload_n hx hb dAr_fill_6 rfl (lv_at hl 0 rfl) ?_
  refine lv_iload hx hb dAr_fill_7 (lv_at hl 3 rfl) ?_
  refine cx_ge (x := v) (y := 40) (tgt := 22) hx hb dAr_fill_9 (by decide) (by first | omega | exact hB _ (by omega) | exact Nat.lt_of_lt_of_le (hB _ (by omega)) (by omega)) (by first | omega | exact hB _ (by omega) | exact Nat.lt_of_lt_of_le (hB _ (by omega)) (by omega)) (fun b0 => ?_) (fun b0 => ?_)
  · skip
    have hP : va_P (dC, dI) vwCl [(zg, .inl (kL, 40, .inr (.inl (cL (fun _ => y)))))] H := cx_Pcg hP 0 rfl (fun j hj => congrArg lN (hg j (by omega)))
    have hD : va_D AA [(zg, .inl (kL, 40, .inr (.inl (cL (fun _ => y)))))] := hD.set (p := 0) rfl
    exact W.vret hx hb hr (fun t ht hW => ⟨⟨(), rfl, trivial, by rw [ht]; exact hP, hD⟩, hS.F ht⟩) hS.2.2 dAr_fill_22
  refine lv_aload_n hx hb dAr_fill_12 rfl (lv_at hl 1 rfl) ?_
  refine lv_iload_n hx hb dAr_fill_13 rfl (lv_at hl 0 rfl) ?_
  refine lv_lload_n hx hb dAr_fill_14 rfl (lv_at hl 2 rfl) ?_
  refine cx_last hx hb hK hP hD hS 0 1 rfl rfl (by first | decide | omega) (i := v) (cL_u) (by first | omega | exact hB _ (by omega) | exact Nat.lt_of_lt_of_le (hB _ (by omega)) (by omega)) dAr_fill_15 (fun H locs hP hD hS => ?_)
  have hP : va_P (dC, dI) vwCl [(zg, .inl (kL, 40, .inr (.inl (cL (wt_u g v y)))))] H := hP
  have hD : va_D AA [(zg, .inl (kL, 40, .inr (.inl (cL (wt_u g v y)))))] := hD
  refine lv_iinc (k := 0) (v := nI (v + 1)) hx hb dAr_fill_16 hl rfl cx_inc1 (by decide) rfl (fun ls hl => ?_)
  have hl : lv_has ls 5 [(3, .int (nI (v + 1))), (0, .ref zg), (1, .long (lN y)), (4, .int (nI 40))] := hl
  refine lv_goto (tgt := 6) hx hb dAr_fill_19 (by decide) ?_
  exact ih1 (v + 1) (wt_u g v y) _ _ _ ⟨lv_sub hl [0, 1, 2, 3] rfl, hP, hD, hS, (by first | assumption | omega | rfl), (cx_fill_s hg)⟩ (by show 40 - (v + 1) < 40 - v; omega)

set_option maxHeartbeats 4000000 in
set_option maxRecDepth 100000 in
theorem c_X4_weigh (l : Launch) (dC : Nat → ClassId) (dI : Nat → Nat → Nat) (kI kL : ClassId) (zw : Nat) (zg : Nat) (w : Nat → Nat) (zc : Nat) (zd : Nat) (f : Nat → Nat) (zt : Nat) (zs : Nat) (zf : Nat) (ze : Nat) (n : Nat) (S : Nat → Int32) (F : Nat → Nat) (E : Nat → Nat) (qn : n ≤ 40) (hB : ∀ u, u < n → f u < n) (qw : cg_wf (S, F, E) n) (sz : Nat) : Met l yX4_weigh (.code yX4_weigh cX4_weigh 5 none :: tbw) { frames := 4, cells := 0, slots := 0, locals := 93 } (va_Pc [.ref zw, .ref zt, .ref zc] (cx_M (dC, dI) vwCl [(zw, .inr (4, [.ref zg])), (zg, .inl (kL, 40, .inr (.inl (cL w)))), (zc, .inr (2, [.ref zd])), (zd, .inl (kI, 40, .inl (cI f))), (zt, .inr (3, [.ref zs, .ref zf, .ref ze, .int (nI n)])), (zs, .inl (kI, 40, .inl S)), (zf, .inl (kI, 40, .inl (cA F))), (ze, .inl (kI, 40, .inl (cA E)))] [(kI, .int), (kL, .long)] sz)) (va_Qv (fun (u : Unit) => True) (cx_B (dC, dI) vwCl (va_A [(zw, .inr (4, [.ref zg])), (zg, .inl (kL, 40, .inr (.inl (cL w)))), (zc, .inr (2, [.ref zd])), (zd, .inl (kI, 40, .inl (cI f))), (zt, .inr (3, [.ref zs, .ref zf, .ref ze, .int (nI n)])), (zs, .inl (kI, 40, .inl S)), (zf, .inl (kI, 40, .inl (cA F))), (ze, .inl (kI, 40, .inl (cA E)))] sz) (fun u : Unit => [(zw, .inr (4, [.ref zg])), (zg, .inl (kL, 40, .inr (.inl (cL (wt_f (S, F, E) f n))))), (zc, .inr (2, [.ref zd])), (zd, .inl (kI, 40, .inl (cI f))), (zt, .inr (3, [.ref zs, .ref zf, .ref ze, .int (nI n)])), (zs, .inl (kI, 40, .inl S)), (zf, .inl (kI, 40, .inl (cA F))), (ze, .inl (kI, 40, .inl (cA E)))])) (va_A [(zw, .inr (4, [.ref zg])), (zg, .inl (kL, 40, .inr (.inl (cL w)))), (zc, .inr (2, [.ref zd])), (zd, .inl (kI, 40, .inl (cI f))), (zt, .inr (3, [.ref zs, .ref zf, .ref ze, .int (nI n)])), (zs, .inl (kI, 40, .inl S)), (zf, .inl (kI, 40, .inl (cA F))), (ze, .inl (kI, 40, .inl (cA E)))] sz)) 0 0 (va_A [(zw, .inr (4, [.ref zg])), (zg, .inl (kL, 40, .inr (.inl (cL w)))), (zc, .inr (2, [.ref zd])), (zd, .inl (kI, 40, .inl (cI f))), (zt, .inr (3, [.ref zs, .ref zf, .ref ze, .int (nI n)])), (zs, .inl (kI, 40, .inl S)), (zf, .inl (kI, 40, .inl (cA F))), (ze, .inl (kI, 40, .inl (cA E)))] sz) := by
  refine Met.ofW (cc := cX4_weigh) (maxL := 5) (ret := none) (by decide) rfl ?_
  intro p e s m args below meth c s₁ B hml hv
  obtain ⟨rfl, hsz, hP, hK, hD0⟩ := hv
  have hx := B.exec
  have hb := B.bytes
  have hr := B.returns
  have hts := atoms_spec (ws := .code yX4_weigh cX4_weigh 5 none :: tbw) B.pre
  have hw : ∀ w ∈ tbw, w.before _ s = true := fun w h => hts w (List.mem_cons_of_mem _ h)
  have hown : s.vm.findClass RX4 = some m.cls := findClass_of_methodNamed B.named
  subst hsz
  have hD := hD0.self (sz := s.heap.size)
  generalize hAe : va_A [(zw, .inr (4, [.ref zg])), (zg, .inl (kL, 40, .inr (.inl (cL w)))), (zc, .inr (2, [.ref zd])), (zd, .inl (kI, 40, .inl (cI f))), (zt, .inr (3, [.ref zs, .ref zf, .ref ze, .int (nI n)])), (zs, .inl (kI, 40, .inl S)), (zf, .inl (kI, 40, .inl (cA F))), (ze, .inl (kI, 40, .inl (cA E)))] s.heap.size = AA at hD ⊢
  have hA : ∀ q : Nat, s.heap.size ≤ q → AA q := fun q h => by rw [← hAe]; exact Or.inr h
  have hS : va_S AA s.heap s.heap [] := va_S.rf
  have hP : va_P (dC, dI) vwCl [(zw, .inr (4, [.ref zg])), (zg, .inl (kL, 40, .inr (.inl (cL w)))), (zc, .inr (2, [.ref zd])), (zd, .inl (kI, 40, .inl (cI f))), (zt, .inr (3, [.ref zs, .ref zf, .ref ze, .int (nI n)])), (zs, .inl (kI, 40, .inl S)), (zf, .inl (kI, 40, .inl (cA F))), (ze, .inl (kI, 40, .inl (cA E)))] s.heap := hP
  have hl := lv_entry ([.ref zw, .ref zt, .ref zc]) (n := 5) (Nat.le_of_ble_eq_true rfl)
  rw [lg_entry_eq]
  generalize (lg_sl ([.ref zw, .ref zt, .ref zc]) ++ List.replicate (5 - (lg_sl ([.ref zw, .ref zt, .ref zc])).length) Slot.unset).toArray = ls at hl ⊢
  have hl : lv_has ls 5 [(0, .ref zw), (1, .ref zt), (2, .ref zc)] := hl
  refine lv_aload_n hx hb dX4_weigh_0 rfl (lv_at hl 0 rfl) ?_
  refine va_get (D := (dC, dI)) (ci := 4) (v := .ref zg) (C := RX4) (T := TX4) (N := 1) hx hb hts (tb_c tbX4) hown hK hP 0 rfl rfl 0 (by decide) (hw _ tw_110) (fun _ h9 => h9) rfl dX4_weigh_1 ?_
  refine lv_ldc2 hx hb hown (hw _ tw_288) dX4_weigh_4 ?_
  refine cx_topl (show (1152921504606846976 : Int64) = lN (2 ^ 60) by decide +kernel) ?_
  refine cx_mv (wc := [(zg, .inl (kL, 40, .inr (.inl (cL w))))]) (wr := [(zw, .inr (4, [.ref zg])), (zc, .inr (2, [.ref zd])), (zd, .inl (kI, 40, .inl (cI f))), (zt, .inr (3, [.ref zs, .ref zf, .ref ze, .int (nI n)])), (zs, .inl (kI, 40, .inl S)), (zf, .inl (kI, 40, .inl (cA F))), (ze, .inl (kI, 40, .inl (cA E)))]) hP hD hS hA [1] [0, 2, 3, 4, 5, 6, 7] rfl rfl (by decide) (by decide) (va_runS (As := [.ref zg, .long (lN (2 ^ 60))]) (rest := []) ⟨hx, hb, hml, hown, hts⟩ (c_Ar_fill l dC dI kI kL zg w (2 ^ 60)  _) ⟨callB_of 2 hts (tb_in2 tw_291) rfl rfl rfl (hw _ tw_9) (hw _ tw_289) hdAr_fill.2 ⟨Nat.le_of_ble_eq_true rfl, Nat.le_of_ble_eq_true rfl⟩, (hw _ tw_290)⟩ (cx_mreS (hP.sub (ws' := [(zg, .inl (kL, 40, .inr (.inl (cL w))))]) [1] rfl) hK (hD.sub (ws' := [(zg, .inl (kL, 40, .inr (.inl (cL w))))]) [1] (by decide) rfl)) rfl rfl hl.1 rfl (lv_room (Nat.le_of_ble_eq_true rfl)) dX4_weigh_7 ⟨Nat.zero_le _, Nat.zero_le _⟩) (fun u7 H locs hres hP hD hS => ?_)
  have hP : va_P (dC, dI) vwCl [(zw, .inr (4, [.ref zg])), (zg, .inl (kL, 40, .inr (.inl (cL (fun _ => (2 ^ 60)))))), (zc, .inr (2, [.ref zd])), (zd, .inl (kI, 40, .inl (cI f))), (zt, .inr (3, [.ref zs, .ref zf, .ref ze, .int (nI n)])), (zs, .inl (kI, 40, .inl S)), (zf, .inl (kI, 40, .inl (cA F))), (ze, .inl (kI, 40, .inl (cA E)))] H := hP.sub (ws' := [(zw, .inr (4, [.ref zg])), (zg, .inl (kL, 40, .inr (.inl (cL (fun _ => (2 ^ 60)))))), (zc, .inr (2, [.ref zd])), (zd, .inl (kI, 40, .inl (cI f))), (zt, .inr (3, [.ref zs, .ref zf, .ref ze, .int (nI n)])), (zs, .inl (kI, 40, .inl S)), (zf, .inl (kI, 40, .inl (cA F))), (ze, .inl (kI, 40, .inl (cA E)))]) [0, 7, 1, 2, 3, 4, 5, 6] rfl
  have hD : va_D AA [(zw, .inr (4, [.ref zg])), (zg, .inl (kL, 40, .inr (.inl (cL (fun _ => (2 ^ 60)))))), (zc, .inr (2, [.ref zd])), (zd, .inl (kI, 40, .inl (cI f))), (zt, .inr (3, [.ref zs, .ref zf, .ref ze, .int (nI n)])), (zs, .inl (kI, 40, .inl S)), (zf, .inl (kI, 40, .inl (cA F))), (ze, .inl (kI, 40, .inl (cA E)))] := hD.sub (ws' := [(zw, .inr (4, [.ref zg])), (zg, .inl (kL, 40, .inr (.inl (cL (fun _ => (2 ^ 60)))))), (zc, .inr (2, [.ref zd])), (zd, .inl (kI, 40, .inl (cI f))), (zt, .inr (3, [.ref zs, .ref zf, .ref ze, .int (nI n)])), (zs, .inl (kI, 40, .inl S)), (zf, .inl (kI, 40, .inl (cA F))), (ze, .inl (kI, 40, .inl (cA E)))]) [0, 7, 1, 2, 3, 4, 5, 6] (by decide) rfl
  refine lv_iconst (v := nI 1) hx hb dX4_weigh_10 (by decide) ?_
  refine lv_istore_n hx hb dX4_weigh_11 rfl hl (by decide) rfl (fun ls hl => ?_)
  have hl : lv_has ls 5 [(3, .int (nI 1)), (0, .ref zw), (1, .ref zt), (2, .ref zc)] := hl
  refine lv_iconst (v := nI 0) hx hb dX4_weigh_12 (by decide) ?_
  refine lv_istore hx hb dX4_weigh_13 hl (by decide) rfl (fun ls hl => ?_)
  have hl : lv_has ls 5 [(4, .int (nI 0)), (3, .int (nI 1)), (0, .ref zw), (1, .ref zt), (2, .ref zc)] := hl
  refine cx_loop3 (fun (r9 : Nat) (ch : Bool) (g : Nat → Nat) (H : Heap) (locs : List Loc) (ls : Array Slot) => lv_has ls 5 [(3, .int (bI ch)), (4, .int (nI r9)), (0, .ref zw), (1, .ref zt), (2, .ref zc)] ∧ va_P (dC, dI) vwCl [(zw, .inr (4, [.ref zg])), (zg, .inl (kL, 40, .inr (.inl (cL g)))), (zc, .inr (2, [.ref zd])), (zd, .inl (kI, 40, .inl (cI f))), (zt, .inr (3, [.ref zs, .ref zf, .ref ze, .int (nI n)])), (zs, .inl (kI, 40, .inl S)), (zf, .inl (kI, 40, .inl (cA F))), (ze, .inl (kI, 40, .inl (cA E)))] H ∧ va_D AA [(zw, .inr (4, [.ref zg])), (zg, .inl (kL, 40, .inr (.inl (cL g)))), (zc, .inr (2, [.ref zd])), (zd, .inl (kI, 40, .inl (cI f))), (zt, .inr (3, [.ref zs, .ref zf, .ref ze, .int (nI n)])), (zs, .inl (kI, 40, .inl S)), (zf, .inl (kI, 40, .inl (cA F))), (ze, .inl (kI, 40, .inl (cA E)))] ∧ va_S AA s.heap H locs ∧ (r9 ≤ n) ∧ (g = wt_i (S, F, E) f n r9) ∧ (ch = true ∨ wt_x (S, F, E) f n (wt_i (S, F, E) f n r9))) (fun r9 ch g => n - r9) (fun r9 ch g H locs ls hI ih1 => ?_) 0 true (fun _ => (2 ^ 60)) ⟨lv_sub hl [1, 0, 2, 3, 4] rfl, hP, hD, hS, (by first | assumption | omega | rfl), (rfl), (Or.inl rfl)⟩
  obtain ⟨hl, hP, hD, hS, hr9, hg, hch⟩ := hI
  refine lv_iload hx hb dX4_weigh_15 (lv_at hl 1 rfl) ?_
  refine lv_aload_n hx hb dX4_weigh_17 rfl (lv_at hl 3 rfl) ?_
  refine va_get (D := (dC, dI)) (ci := 3) (v := .int (nI n)) (C := RX3) (T := TX3) (N := 4) hx hb hts (tb_c tbX3) hown hK hP 4 rfl rfl 3 (by decide) (hw _ tw_34) (fun _ h9 => h9) rfl dX4_weigh_18 ?_
  refine cx_ge (x := r9) (y := n) (tgt := 41) hx hb dX4_weigh_21 (by decide) (by first | omega | exact hB _ (by omega) | exact Nat.lt_of_lt_of_le (hB _ (by omega)) (by omega)) (by first | omega | exact hB _ (by omega) | exact Nat.lt_of_lt_of_le (hB _ (by omega)) (by omega)) (fun b0 => ?_) (fun b0 => ?_)
  · skip
    obtain rfl := wt_ie qw hB qn hg hch (by first | exact Or.inl b0 | exact Or.inr b1)
    exact W.vret hx hb hr (fun t ht hW => ⟨⟨(), rfl, trivial, by rw [ht]; exact hP, hD⟩, hS.F ht⟩) hS.2.2 dX4_weigh_41
  refine lv_iload_n hx hb dX4_weigh_24 rfl (lv_at hl 0 rfl) ?_
  refine cx_if0 (tgt := 41) hx hb dX4_weigh_25 (by decide) (fun b1 => ?_) (fun b1 => ?_)
  · skip
    obtain rfl := wt_ie qw hB qn hg hch (by first | exact Or.inl b0 | exact Or.inr b1)
    exact W.vret hx hb hr (fun t ht hW => ⟨⟨(), rfl, trivial, by rw [ht]; exact hP, hD⟩, hS.F ht⟩) hS.2.2 dX4_weigh_41
  refine lv_aload_n hx hb dX4_weigh_28 rfl (lv_at hl 2 rfl) ?_
  refine lv_aload_n hx hb dX4_weigh_29 rfl (lv_at hl 3 rfl) ?_
  refine lv_aload_n hx hb dX4_weigh_30 rfl (lv_at hl 4 rfl) ?_
  refine cx_mi (wc := [(zw, .inr (4, [.ref zg])), (zg, .inl (kL, 40, .inr (.inl (cL g)))), (zc, .inr (2, [.ref zd])), (zd, .inl (kI, 40, .inl (cI f))), (zt, .inr (3, [.ref zs, .ref zf, .ref ze, .int (nI n)])), (zs, .inl (kI, 40, .inl S)), (zf, .inl (kI, 40, .inl (cA F))), (ze, .inl (kI, 40, .inl (cA E)))]) (wr := []) hP hD hS hA [0, 1, 2, 3, 4, 5, 6, 7] [] rfl rfl (by decide) (by decide) (va_runV (As := [.ref zt, .ref zc]) (rest := []) ⟨hx, hb, hml, hown, hts⟩ (c_X4_lower l dC dI kI kL zw zg g zc zd f zt zs zf ze n S F E (by first | assumption | omega | rfl) (by first | assumption | omega | rfl) (by first | assumption | omega | rfl) (by rw [hg]; exact wt_i_u r9) _) (cwV 2 hts gv_X4_29 rfl rfl rfl hdX4_lower ⟨Nat.le_of_ble_eq_true rfl, Nat.le_of_ble_eq_true rfl⟩) (cx_mreV (hP.sub (ws' := [(zw, .inr (4, [.ref zg])), (zg, .inl (kL, 40, .inr (.inl (cL g)))), (zc, .inr (2, [.ref zd])), (zd, .inl (kI, 40, .inl (cI f))), (zt, .inr (3, [.ref zs, .ref zf, .ref ze, .int (nI n)])), (zs, .inl (kI, 40, .inl S)), (zf, .inl (kI, 40, .inl (cA F))), (ze, .inl (kI, 40, .inl (cA E)))]) [0, 1, 2, 3, 4, 5, 6, 7] rfl) hK (hD.sub (ws' := [(zw, .inr (4, [.ref zg])), (zg, .inl (kL, 40, .inr (.inl (cL g)))), (zc, .inr (2, [.ref zd])), (zd, .inl (kI, 40, .inl (cI f))), (zt, .inr (3, [.ref zs, .ref zf, .ref ze, .int (nI n)])), (zs, .inl (kI, 40, .inl S)), (zf, .inl (kI, 40, .inl (cA F))), (ze, .inl (kI, 40, .inl (cA E)))]) [0, 1, 2, 3, 4, 5, 6, 7] (by decide) rfl) rfl (q0 := 0) rfl) rfl rfl hl.1 rfl (lv_room (Nat.le_of_ble_eq_true rfl)) dX4_weigh_31 ⟨Nat.zero_le _, Nat.zero_le _⟩) (fun r u31 H locs hres hP hD hS => ?_)
  subst hres
  have hP : va_P (dC, dI) vwCl [(zw, .inr (4, [.ref zg])), (zg, .inl (kL, 40, .inr (.inl (cL ((wt_r (S, F, E) f n g).1))))), (zc, .inr (2, [.ref zd])), (zd, .inl (kI, 40, .inl (cI f))), (zt, .inr (3, [.ref zs, .ref zf, .ref ze, .int (nI n)])), (zs, .inl (kI, 40, .inl S)), (zf, .inl (kI, 40, .inl (cA F))), (ze, .inl (kI, 40, .inl (cA E)))] H := hP.sub (ws' := [(zw, .inr (4, [.ref zg])), (zg, .inl (kL, 40, .inr (.inl (cL ((wt_r (S, F, E) f n g).1))))), (zc, .inr (2, [.ref zd])), (zd, .inl (kI, 40, .inl (cI f))), (zt, .inr (3, [.ref zs, .ref zf, .ref ze, .int (nI n)])), (zs, .inl (kI, 40, .inl S)), (zf, .inl (kI, 40, .inl (cA F))), (ze, .inl (kI, 40, .inl (cA E)))]) [0, 1, 2, 3, 4, 5, 6, 7] rfl
  have hD : va_D AA [(zw, .inr (4, [.ref zg])), (zg, .inl (kL, 40, .inr (.inl (cL ((wt_r (S, F, E) f n g).1))))), (zc, .inr (2, [.ref zd])), (zd, .inl (kI, 40, .inl (cI f))), (zt, .inr (3, [.ref zs, .ref zf, .ref ze, .int (nI n)])), (zs, .inl (kI, 40, .inl S)), (zf, .inl (kI, 40, .inl (cA F))), (ze, .inl (kI, 40, .inl (cA E)))] := hD.sub (ws' := [(zw, .inr (4, [.ref zg])), (zg, .inl (kL, 40, .inr (.inl (cL ((wt_r (S, F, E) f n g).1))))), (zc, .inr (2, [.ref zd])), (zd, .inl (kI, 40, .inl (cI f))), (zt, .inr (3, [.ref zs, .ref zf, .ref ze, .int (nI n)])), (zs, .inl (kI, 40, .inl S)), (zf, .inl (kI, 40, .inl (cA F))), (ze, .inl (kI, 40, .inl (cA E)))]) [0, 1, 2, 3, 4, 5, 6, 7] (by decide) rfl
  refine lv_istore_n hx hb dX4_weigh_34 rfl hl (by decide) rfl (fun ls hl => ?_)
  have hl : lv_has ls 5 [(3, .int (bI ((wt_r (S, F, E) f n g).2))), (4, .int (nI r9)), (0, .ref zw), (1, .ref zt), (2, .ref zc)] := hl
  refine lv_iinc (k := 1) (v := nI (r9 + 1)) hx hb dX4_weigh_35 hl rfl cx_inc1 (by decide) rfl (fun ls hl => ?_)
  have hl : lv_has ls 5 [(4, .int (nI (r9 + 1))), (3, .int (bI ((wt_r (S, F, E) f n g).2))), (0, .ref zw), (1, .ref zt), (2, .ref zc)] := hl
  refine lv_goto (tgt := 15) hx hb dX4_weigh_38 (by decide) ?_
  exact ih1 (r9 + 1) ((wt_r (S, F, E) f n g).2) ((wt_r (S, F, E) f n g).1) _ _ _ ⟨lv_sub hl [1, 0, 2, 3, 4] rfl, hP, hD, hS, (by first | assumption | omega | rfl), (wt_is hg), (wt_ic hB hg)⟩ (by show n - (r9 + 1) < n - r9; omega)

set_option maxHeartbeats 4000000 in
set_option maxRecDepth 100000 in
theorem c_X4_lightest (l : Launch) (dC : Nat → ClassId) (dI : Nat → Nat → Nat) (kI kL : ClassId) (zw : Nat) (zg : Nat) (zc : Nat) (zd : Nat) (f : Nat → Nat) (zt : Nat) (zs : Nat) (zf : Nat) (ze : Nat) (n : Nat) (S : Nat → Int32) (F : Nat → Nat) (E : Nat → Nat) (i : Nat) (qn : n ≤ 40) (hB : ∀ u, u < n → f u < n) (qw : cg_wf (S, F, E) n) (qi : i < n) : Met l yX4_lightest (.code yX4_lightest cX4_lightest 5 (some .int) :: tbw) { frames := 3, cells := 0, slots := 0, locals := 67 } (va_Pc [.ref zw, .ref zt, .ref zc, .int (nI i)] (cx_R (dC, dI) vwCl [(zw, .inr (4, [.ref zg])), (zg, .inl (kL, 40, .inr (.inl (cL (wt_f (S, F, E) f n))))), (zc, .inr (2, [.ref zd])), (zd, .inl (kI, 40, .inl (cI f))), (zt, .inr (3, [.ref zs, .ref zf, .ref ze, .int (nI n)])), (zs, .inl (kI, 40, .inl S)), (zf, .inl (kI, 40, .inl (cA F))), (ze, .inl (kI, 40, .inl (cA E)))] [(kI, .int), (kL, .long)])) (vp_Si (fun r => r = nI (wt_b (S, F, E) f n i))) 0 0 (fun _ => False) := by
  refine Met.ofW (cc := cX4_lightest) (maxL := 5) (ret := (some .int)) (by decide) rfl ?_
  intro p e s m args below meth c s₁ B hml hv
  obtain ⟨rfl, hP, hK⟩ := hv
  have hx := B.exec
  have hb := B.bytes
  have hr := B.returns
  have hts := atoms_spec (ws := .code yX4_lightest cX4_lightest 5 (some .int) :: tbw) B.pre
  have hw : ∀ w ∈ tbw, w.before _ s = true := fun w h => hts w (List.mem_cons_of_mem _ h)
  have hown : s.vm.findClass RX4 = some m.cls := findClass_of_methodNamed B.named
  have hP : va_P (dC, dI) vwCl [(zw, .inr (4, [.ref zg])), (zg, .inl (kL, 40, .inr (.inl (cL (wt_f (S, F, E) f n))))), (zc, .inr (2, [.ref zd])), (zd, .inl (kI, 40, .inl (cI f))), (zt, .inr (3, [.ref zs, .ref zf, .ref ze, .int (nI n)])), (zs, .inl (kI, 40, .inl S)), (zf, .inl (kI, 40, .inl (cA F))), (ze, .inl (kI, 40, .inl (cA E)))] s.heap := hP
  have hl := lv_entry ([.ref zw, .ref zt, .ref zc, .int (nI i)]) (n := 5) (Nat.le_of_ble_eq_true rfl)
  rw [lg_entry_eq]
  generalize (lg_sl ([.ref zw, .ref zt, .ref zc, .int (nI i)]) ++ List.replicate (5 - (lg_sl ([.ref zw, .ref zt, .ref zc, .int (nI i)])).length) Slot.unset).toArray = ls at hl ⊢
  have hl : lv_has ls 5 [(0, .ref zw), (1, .ref zt), (2, .ref zc), (3, .int (nI i))] := hl
  have hW := wt_f_u (T := (S, F, E)) (L := f) (n := n)
  refine lv_iconst (v := nI 0) hx hb dX4_lightest_0 (by decide) ?_
  refine lv_istore hx hb dX4_lightest_1 hl (by decide) rfl (fun ls hl => ?_)
  have hl : lv_has ls 5 [(4, .int (nI 0)), (0, .ref zw), (1, .ref zt), (2, .ref zc), (3, .int (nI i))] := hl
  refine cx_loopR1 (fun (v : Nat) (ls : Array Slot) => lv_has ls 5 [(4, .int (nI v)), (0, .ref zw), (1, .ref zt), (2, .ref zc), (3, .int (nI i))] ∧ (v ≤ n) ∧ (∀ u, u < v → ¬ (f u = f i ∧ wt_c (S, F, E) f (wt_f (S, F, E) f n) u = wt_f (S, F, E) f n (f i)))) (fun v => n - v) (fun v ls hI ih1 => ?_) 0 ⟨lv_sub hl [0, 1, 2, 3, 4] rfl, (by first | assumption | omega | rfl), (fun u h => absurd h (Nat.not_lt_zero u))⟩
  obtain ⟨hl, hv1, hno⟩ := hI
  refine lv_iload hx hb dX4_lightest_3 (lv_at hl 0 rfl) ?_
  refine lv_aload_n hx hb dX4_lightest_5 rfl (lv_at hl 2 rfl) ?_
  refine va_get (D := (dC, dI)) (ci := 3) (v := .int (nI n)) (C := RX3) (T := TX3) (N := 4) hx hb hts (tb_c tbX3) hown hK hP 4 rfl rfl 3 (by decide) (hw _ tw_34) (fun _ h9 => h9) rfl dX4_lightest_6 ?_
  refine cx_ge (x := v) (y := n) (tgt := 49) hx hb dX4_lightest_9 (by decide) (by first | omega | exact hB _ (by omega) | exact Nat.lt_of_lt_of_le (hB _ (by omega)) (by omega)) (by first | omega | exact hB _ (by omega) | exact Nat.lt_of_lt_of_le (hB _ (by omega)) (by omega)) (fun b0 => ?_) (fun b0 => ?_)
  · skip
    exact (wt_b_d qw hB qn qi hno b0).elim
  have e2 := wt_c_b (T := (S, F, E)) (L := f) hW v
  have e3 := hW (f i)
  refine lv_aload_n hx hb dX4_lightest_12 rfl (lv_at hl 3 rfl) ?_
  refine lv_iload hx hb dX4_lightest_13 (lv_at hl 0 rfl) ?_
  refine lv_iload_n hx hb dX4_lightest_15 rfl (lv_at hl 4 rfl) ?_
  refine cx_si (va_runV (As := [.int (nI v), .int (nI i)]) (rest := []) ⟨hx, hb, hml, hown, hts⟩ (c_X2_joins l dC dI kI kL zc zd f n v i (by first | assumption | omega | rfl) (by first | assumption | omega | rfl) (by first | assumption | omega | rfl) (by first | assumption | omega | rfl)) (cwV 2 hts gv_X4_56 rfl rfl rfl hdX2_joins ⟨Nat.le_of_ble_eq_true rfl, Nat.le_of_ble_eq_true rfl⟩) (cx_preV (hP.sub (ws' := [(zc, .inr (2, [.ref zd])), (zd, .inl (kI, 40, .inl (cI f)))]) [2, 3] rfl) hK rfl (q0 := 0) rfl) rfl rfl hl.1 rfl (lv_room (Nat.le_of_ble_eq_true rfl)) dX4_lightest_16 ⟨Nat.zero_le _, Nat.zero_le _⟩) (fun r hres => ?_)
  subst hres
  refine cx_if0 (tgt := 43) hx hb dX4_lightest_19 (by decide) (fun b1 => ?_) (fun b1 => ?_)
  · skip
    refine lv_iinc (k := 0) (v := nI (v + 1)) hx hb dX4_lightest_43 hl rfl cx_inc1 (by decide) rfl (fun ls hl => ?_)
    have hl : lv_has ls 5 [(4, .int (nI (v + 1))), (0, .ref zw), (1, .ref zt), (2, .ref zc), (3, .int (nI i))] := hl
    refine lv_goto (tgt := 3) hx hb dX4_lightest_46 (by decide) ?_
    exact ih1 (v + 1) _ ⟨lv_sub hl [0, 1, 2, 3, 4] rfl, (by first | assumption | omega | rfl), (wt_b_s hno (by first | exact fun h => of_decide_eq_false b1 h.1 | exact fun h => b2 h.2))⟩ (by show n - (v + 1) < n - v; omega)
  refine lv_aload_n hx hb dX4_lightest_22 rfl (lv_at hl 1 rfl) ?_
  refine lv_aload_n hx hb dX4_lightest_23 rfl (lv_at hl 2 rfl) ?_
  refine lv_aload_n hx hb dX4_lightest_24 rfl (lv_at hl 3 rfl) ?_
  refine lv_iload hx hb dX4_lightest_25 (lv_at hl 0 rfl) ?_
  refine cx_sl (va_runV (As := [.ref zt, .ref zc, .int (nI v)]) (rest := []) ⟨hx, hb, hml, hown, hts⟩ (c_X4_costOf l dC dI kI kL zw zg (wt_f (S, F, E) f n) zc zd f zt zs zf ze n S F E v (by first | assumption | omega | rfl) (by first | assumption | omega | rfl) (by first | assumption | omega | rfl) (by first | assumption | omega | rfl)) (cwV 3 hts gv_X4_33 rfl rfl rfl hdX4_costOf ⟨Nat.le_of_ble_eq_true rfl, Nat.le_of_ble_eq_true rfl⟩) (cx_preV (hP.sub (ws' := [(zw, .inr (4, [.ref zg])), (zg, .inl (kL, 40, .inr (.inl (cL (wt_f (S, F, E) f n))))), (zc, .inr (2, [.ref zd])), (zd, .inl (kI, 40, .inl (cI f))), (zt, .inr (3, [.ref zs, .ref zf, .ref ze, .int (nI n)])), (zs, .inl (kI, 40, .inl S)), (zf, .inl (kI, 40, .inl (cA F))), (ze, .inl (kI, 40, .inl (cA E)))]) [0, 1, 2, 3, 4, 5, 6, 7] rfl) hK rfl (q0 := 0) rfl) rfl rfl hl.1 rfl (lv_room (Nat.le_of_ble_eq_true rfl)) dX4_lightest_27 ⟨Nat.zero_le _, Nat.zero_le _⟩) (fun r hres => ?_)
  subst hres
  refine lv_aload_n hx hb dX4_lightest_30 rfl (lv_at hl 1 rfl) ?_
  refine lv_aload_n hx hb dX4_lightest_31 rfl (lv_at hl 3 rfl) ?_
  refine lv_iload_n hx hb dX4_lightest_32 rfl (lv_at hl 4 rfl) ?_
  refine cx_sl (va_runV (As := [.ref zc, .int (nI i)]) (rest := [.long (lN (wt_c (S, F, E) f (wt_f (S, F, E) f n) v))]) ⟨hx, hb, hml, hown, hts⟩ (c_X4_ofTerm l dC dI kI kL zw zg (wt_f (S, F, E) f n) zc zd f n i (by first | assumption | omega | rfl) (by first | assumption | omega | rfl) (by first | assumption | omega | rfl)) (cwV 2 hts gv_X4_53 rfl rfl rfl hdX4_ofTerm ⟨Nat.le_of_ble_eq_true rfl, Nat.le_of_ble_eq_true rfl⟩) (cx_preV (hP.sub (ws' := [(zw, .inr (4, [.ref zg])), (zg, .inl (kL, 40, .inr (.inl (cL (wt_f (S, F, E) f n))))), (zc, .inr (2, [.ref zd])), (zd, .inl (kI, 40, .inl (cI f)))]) [0, 1, 2, 3] rfl) hK rfl (q0 := 0) rfl) rfl rfl hl.1 rfl (lv_room (Nat.le_of_ble_eq_true rfl)) dX4_lightest_33 ⟨Nat.zero_le _, Nat.zero_le _⟩) (fun r hres => ?_)
  subst hres
  refine cx_lne (tgt := 43) hx hb dX4_lightest_36 dX4_lightest_37 (by decide) (by first | omega | exact hB _ (by omega) | exact Nat.lt_of_lt_of_le (hB _ (by omega)) (by omega)) (by first | omega | exact hB _ (by omega) | exact Nat.lt_of_lt_of_le (hB _ (by omega)) (by omega)) (fun b2 => ?_) (fun b2 => ?_)
  · skip
    refine lv_iinc (k := 0) (v := nI (v + 1)) hx hb dX4_lightest_43 hl rfl cx_inc1 (by decide) rfl (fun ls hl => ?_)
    have hl : lv_has ls 5 [(4, .int (nI (v + 1))), (0, .ref zw), (1, .ref zt), (2, .ref zc), (3, .int (nI i))] := hl
    refine lv_goto (tgt := 3) hx hb dX4_lightest_46 (by decide) ?_
    exact ih1 (v + 1) _ ⟨lv_sub hl [0, 1, 2, 3, 4] rfl, (by first | assumption | omega | rfl), (wt_b_s hno (by first | exact fun h => of_decide_eq_false b1 h.1 | exact fun h => b2 h.2))⟩ (by show n - (v + 1) < n - v; omega)
  refine lv_iload hx hb dX4_lightest_40 (lv_at hl 0 rfl) ?_
  exact W.iret (v := nI v) hx hb hr (fun t ht hW => ⟨_, rfl, congrArg nI (wt_b_at hno (of_decide_eq_true b1) b2 b0), ht⟩) (fun _ h9 => by cases h9) dX4_lightest_42
end
