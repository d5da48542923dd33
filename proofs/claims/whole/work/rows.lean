section
-- ===== PART A: goes FIRST, ahead of the names: the tables' words, and 'selects' of the private methods out of them =====
/-- a private method of a class that the tables say can be made, by its rows of tables_1 -/
def lw_okq (q : MethodName × Nat) : Prop := (q.1.cls ≠ "java/lang/invoke/MethodHandle" ∧ q.1.cls ≠ "java/lang/invoke/VarHandle") ∧ Cond.instantiable q.1.cls q.2 ∈ tables_1 ∧ Cond.privateMethod q.1 ∈ tables_1 ∧ Cond.instanceMethod q.1 ∈ tables_1
theorem lw_p0 : lw_okq (⟨"LotFlows$RecallList", "insert", "(IIJ)V"⟩, 4) := ⟨⟨by decide +kernel, by decide +kernel⟩, List.mem_of_getElem? (i := 100) (by decide +kernel), List.mem_of_getElem? (i := 261) (by decide +kernel), List.mem_of_getElem? (i := 262) (by decide +kernel)⟩
theorem lw_p1 : lw_okq (⟨"LotFlows$Stock", "part", "(IJJ)V"⟩, 8) := ⟨⟨by decide +kernel, by decide +kernel⟩, List.mem_of_getElem? (i := 123) (by decide +kernel), List.mem_of_getElem? (i := 298) (by decide +kernel), List.mem_of_getElem? (i := 299) (by decide +kernel)⟩
theorem lw_p2 : lw_okq (⟨"LotFlows$Stock", "greatestRest", "()I"⟩, 8) := ⟨⟨by decide +kernel, by decide +kernel⟩, List.mem_of_getElem? (i := 123) (by decide +kernel), List.mem_of_getElem? (i := 303) (by decide +kernel), List.mem_of_getElem? (i := 304) (by decide +kernel)⟩
theorem lw_p3 : lw_okq (⟨"LotFlows", "takeTrial", "()V"⟩, 6) := ⟨⟨by decide +kernel, by decide +kernel⟩, List.mem_of_getElem? (i := 17) (by decide +kernel), List.mem_of_getElem? (i := 311) (by decide +kernel), List.mem_of_getElem? (i := 312) (by decide +kernel)⟩
theorem lw_p4 : lw_okq (⟨"LotFlows$Stock", "differs", "(LLotFlows$Stock;I)Z"⟩, 8) := ⟨⟨by decide +kernel, by decide +kernel⟩, List.mem_of_getElem? (i := 123) (by decide +kernel), List.mem_of_getElem? (i := 319) (by decide +kernel), List.mem_of_getElem? (i := 320) (by decide +kernel)⟩
theorem lw_p5 : lw_okq (⟨"LotFlows", "countTopFlows", "(IJJ)I"⟩, 6) := ⟨⟨by decide +kernel, by decide +kernel⟩, List.mem_of_getElem? (i := 17) (by decide +kernel), List.mem_of_getElem? (i := 332) (by decide +kernel), List.mem_of_getElem? (i := 333) (by decide +kernel)⟩
theorem lw_p6 : lw_okq (⟨"LotFlows", "canGive", "(IIJ)J"⟩, 6) := ⟨⟨by decide +kernel, by decide +kernel⟩, List.mem_of_getElem? (i := 17) (by decide +kernel), List.mem_of_getElem? (i := 336) (by decide +kernel), List.mem_of_getElem? (i := 337) (by decide +kernel)⟩
theorem lw_p7 : lw_okq (⟨"LotFlows", "tellTopFlows", "(IIJJ)V"⟩, 6) := ⟨⟨by decide +kernel, by decide +kernel⟩, List.mem_of_getElem? (i := 17) (by decide +kernel), List.mem_of_getElem? (i := 340) (by decide +kernel), List.mem_of_getElem? (i := 341) (by decide +kernel)⟩
theorem lw_p8 : lw_okq (⟨"LotFlows", "tell", "(IIJJ)Z"⟩, 6) := ⟨⟨by decide +kernel, by decide +kernel⟩, List.mem_of_getElem? (i := 17) (by decide +kernel), List.mem_of_getElem? (i := 344) (by decide +kernel), List.mem_of_getElem? (i := 345) (by decide +kernel)⟩
theorem lw_p9 : lw_okq (⟨"java/lang/Throwable", "fillInStackTrace", "(I)Ljava/lang/Throwable;"⟩, 6) := ⟨⟨by decide +kernel, by decide +kernel⟩, List.mem_of_getElem? (i := 421) (by decide +kernel), List.mem_of_getElem? (i := 419) (by decide +kernel), List.mem_of_getElem? (i := 420) (by decide +kernel)⟩
theorem lw_p10 : lw_okq (⟨"LotFlowsModel", "make", "(IJJ)I"⟩, 25) := ⟨⟨by decide +kernel, by decide +kernel⟩, List.mem_of_getElem? (i := 486) (by decide +kernel), List.mem_of_getElem? (i := 578) (by decide +kernel), List.mem_of_getElem? (i := 579) (by decide +kernel)⟩
theorem lw_p11 : lw_okq (⟨"LotFlowsModel", "isNode", "(I)Z"⟩, 25) := ⟨⟨by decide +kernel, by decide +kernel⟩, List.mem_of_getElem? (i := 486) (by decide +kernel), List.mem_of_getElem? (i := 590) (by decide +kernel), List.mem_of_getElem? (i := 591) (by decide +kernel)⟩
theorem lw_p12 : lw_okq (⟨"LotFlowsModel", "put", "(IIJJ)V"⟩, 25) := ⟨⟨by decide +kernel, by decide +kernel⟩, List.mem_of_getElem? (i := 486) (by decide +kernel), List.mem_of_getElem? (i := 594) (by decide +kernel), List.mem_of_getElem? (i := 595) (by decide +kernel)⟩
theorem lw_p13 : lw_okq (⟨"LotFlowsModel", "walk", "()Z"⟩, 25) := ⟨⟨by decide +kernel, by decide +kernel⟩, List.mem_of_getElem? (i := 486) (by decide +kernel), List.mem_of_getElem? (i := 598) (by decide +kernel), List.mem_of_getElem? (i := 599) (by decide +kernel)⟩
theorem lw_p14 : lw_okq (⟨"LotFlowsModel", "sum", "(I)J"⟩, 25) := ⟨⟨by decide +kernel, by decide +kernel⟩, List.mem_of_getElem? (i := 486) (by decide +kernel), List.mem_of_getElem? (i := 602) (by decide +kernel), List.mem_of_getElem? (i := 603) (by decide +kernel)⟩
theorem lw_p15 : lw_okq (⟨"LotFlowsModel", "part", "(IJJ)V"⟩, 25) := ⟨⟨by decide +kernel, by decide +kernel⟩, List.mem_of_getElem? (i := 486) (by decide +kernel), List.mem_of_getElem? (i := 606) (by decide +kernel), List.mem_of_getElem? (i := 607) (by decide +kernel)⟩
def lw_privs_1 : List (MethodName × Nat) := [(⟨"LotFlows$RecallList", "insert", "(IIJ)V"⟩, 4), (⟨"LotFlows$Stock", "part", "(IJJ)V"⟩, 8), (⟨"LotFlows$Stock", "greatestRest", "()I"⟩, 8), (⟨"LotFlows", "takeTrial", "()V"⟩, 6), (⟨"LotFlows$Stock", "differs", "(LLotFlows$Stock;I)Z"⟩, 8), (⟨"LotFlows", "countTopFlows", "(IJJ)I"⟩, 6), (⟨"LotFlows", "canGive", "(IIJ)J"⟩, 6), (⟨"LotFlows", "tellTopFlows", "(IIJJ)V"⟩, 6), (⟨"LotFlows", "tell", "(IIJJ)Z"⟩, 6), (⟨"java/lang/Throwable", "fillInStackTrace", "(I)Ljava/lang/Throwable;"⟩, 6), (⟨"LotFlowsModel", "make", "(IJJ)I"⟩, 25), (⟨"LotFlowsModel", "isNode", "(I)Z"⟩, 25), (⟨"LotFlowsModel", "put", "(IIJJ)V"⟩, 25), (⟨"LotFlowsModel", "walk", "()Z"⟩, 25), (⟨"LotFlowsModel", "sum", "(I)J"⟩, 25), (⟨"LotFlowsModel", "part", "(IJJ)V"⟩, 25)]
theorem lw_r1 : ∀ q ∈ lw_privs_1, lw_okq q := List.forall_mem_cons.mpr ⟨lw_p0, List.forall_mem_cons.mpr ⟨lw_p1, List.forall_mem_cons.mpr ⟨lw_p2, List.forall_mem_cons.mpr ⟨lw_p3, List.forall_mem_cons.mpr ⟨lw_p4, List.forall_mem_cons.mpr ⟨lw_p5, List.forall_mem_cons.mpr ⟨lw_p6, List.forall_mem_cons.mpr ⟨lw_p7, List.forall_mem_cons.mpr ⟨lw_p8, List.forall_mem_cons.mpr ⟨lw_p9, List.forall_mem_cons.mpr ⟨lw_p10, List.forall_mem_cons.mpr ⟨lw_p11, List.forall_mem_cons.mpr ⟨lw_p12, List.forall_mem_cons.mpr ⟨lw_p13, List.forall_mem_cons.mpr ⟨lw_p14, List.forall_mem_cons.mpr ⟨lw_p15, fun _ h => absurd h List.not_mem_nil⟩⟩⟩⟩⟩⟩⟩⟩⟩⟩⟩⟩⟩⟩⟩⟩
theorem lw_p16 : lw_okq (⟨"LotFlowsModel", "isLot", "(I)Z"⟩, 25) := ⟨⟨by decide +kernel, by decide +kernel⟩, List.mem_of_getElem? (i := 486) (by decide +kernel), List.mem_of_getElem? (i := 619) (by decide +kernel), List.mem_of_getElem? (i := 620) (by decide +kernel)⟩
def lw_privs_2 : List (MethodName × Nat) := [(⟨"LotFlowsModel", "isLot", "(I)Z"⟩, 25)]
theorem lw_r2 : ∀ q ∈ lw_privs_2, lw_okq q := List.forall_mem_cons.mpr ⟨lw_p16, fun _ h => absurd h List.not_mem_nil⟩
def lw_privs : List (MethodName × Nat) := lw_privs_1 ++ (lw_privs_2)
def lw_tbl : List Cond := k2_sels lw_privs ++ tables_1
theorem lw_privs_ok : ∀ q ∈ lw_privs, lw_okq q := by
  show ∀ q ∈ lw_privs_1 ++ (lw_privs_2), lw_okq q
  exact List.forall_mem_append.mpr ⟨lw_r1, lw_r2⟩
end
section
/-! ===== BEGIN words of one list among another's, by their places ===== -/
theorem goodIn_r {big : List Cond} (ws : List Cond) (ps : List Nat) (hp : ws = ps.filterMap (fun i => big[i]?)) (h : ws.all goodWord = true) : GoodIn big ws := by
  intro w hw
  have h1 := List.all_eq_true.mp h w hw
  rw [hp] at hw
  obtain ⟨i, -, hi⟩ := List.mem_filterMap.mp hw
  have hm : w ∈ big := by first | exact List.mem_of_getElem? hi | exact List.getElem?_mem hi
  exact ⟨hm, good_of_word h1⟩
theorem goodIn_app {big a b : List Cond} (ha : GoodIn big a) (hb : GoodIn big b) : GoodIn big (a ++ b) := fun w h => (List.mem_append.mp h).elim (ha w) (hb w)
theorem goodIn_ca {big a b : List Cond} {c : Cond} (ha : GoodIn big (c :: a)) (hb : GoodIn big b) : GoodIn big (c :: (a ++ b)) := fun w h => (List.mem_cons.mp h).elim (fun e => ha w (List.mem_cons.mpr (Or.inl e))) (fun h => (List.mem_append.mp h).elim (fun h => ha w (List.mem_cons.mpr (Or.inr h))) (hb w))
theorem goodIn_sub {big ws : List Cond} (hm : ∀ w ∈ ws, w ∈ big) (h : ws.all goodWord = true) : GoodIn big ws := fun w hw => ⟨hm w hw, good_of_word (List.all_eq_true.mp h w hw)⟩
/-! ===== END ===== -/
end
section
def RX0 : String := "LotFlows$Flows"
def TX0 : u_T := fun k => match k with
  | 0 => ("LotFlows$Flows", "count", "I", false)
  | 1 => ("LotFlows$Flows", "from", "[I", true)
  | 2 => ("LotFlows$Flows", "to", "[I", true)
  | 3 => ("LotFlows$Flows", "amount", "[J", true)
  | 4 => ("LotFlows$Flows", "day", "[J", true)
  | _ => ("LotFlows$Flows", "order", "[I", true)
def tyX0 : Nat → FieldType := fun k => match k with
  | 0 => .int
  | 1 => .array .int
  | 2 => .array .int
  | 3 => .array .long
  | 4 => .array .long
  | _ => .array .int
abbrev wsX00 : List Cond := u_ws RX0 TX0 6
theorem nmX0 : ∀ a, a < 6 → ∀ b, b < 6 → a ≠ b → (TX0 a).2.1 ≠ (TX0 b).2.1 := by decide +kernel
theorem tyX0_ok : ∀ k, k < 6 → parseFieldDescriptor (TX0 k).2.2.1 = some (tyX0 k) := by decide +kernel
abbrev cX0_init : ByteArray := prog_2_method_1_code
def yX0_init : MethodName := ⟨RX0, "<init>", "()V"⟩
abbrev cX0_greatestDay : ByteArray := prog_2_method_2_code
def yX0_greatestDay : MethodName := ⟨RX0, "greatestDay", "()J"⟩
abbrev cX0_turnFor : ByteArray := prog_2_method_3_code
def yX0_turnFor : MethodName := ⟨RX0, "turnFor", "(J)I"⟩
abbrev cX0_insert : ByteArray := prog_2_method_4_code
def yX0_insert : MethodName := ⟨RX0, "insert", "(IIIJJ)V"⟩
abbrev cX0_removeNewest : ByteArray := prog_2_method_5_code
def yX0_removeNewest : MethodName := ⟨RX0, "removeNewest", "(I)V"⟩
def RX1 : String := "LotFlows$Nodes"
def TX1 : u_T := fun k => match k with
  | 0 => ("LotFlows$Nodes", "count", "I", false)
  | 1 => ("LotFlows$Nodes", "lotCount", "I", false)
  | 2 => ("LotFlows$Nodes", "kind", "[I", true)
  | 3 => ("LotFlows$Nodes", "amount", "[J", true)
  | 4 => ("LotFlows$Nodes", "day", "[J", true)
  | 5 => ("LotFlows$Nodes", "held", "[Z", true)
  | 6 => ("LotFlows$Nodes", "spot", "[I", true)
  | _ => ("LotFlows$Nodes", "lotsByAge", "[I", true)
def tyX1 : Nat → FieldType := fun k => match k with
  | 0 => .int
  | 1 => .int
  | 2 => .array .int
  | 3 => .array .long
  | 4 => .array .long
  | 5 => .array .boolean
  | 6 => .array .int
  | _ => .array .int
abbrev wsX10 : List Cond := u_ws RX1 TX1 8
theorem nmX1 : ∀ a, a < 8 → ∀ b, b < 8 → a ≠ b → (TX1 a).2.1 ≠ (TX1 b).2.1 := by decide +kernel
theorem tyX1_ok : ∀ k, k < 8 → parseFieldDescriptor (TX1 k).2.2.1 = some (tyX1 k) := by decide +kernel
abbrev cX1_init : ByteArray := prog_3_method_1_code
def yX1_init : MethodName := ⟨RX1, "<init>", "()V"⟩
abbrev cX1_has : ByteArray := prog_3_method_2_code
def yX1_has : MethodName := ⟨RX1, "has", "(I)Z"⟩
abbrev cX1_isLot : ByteArray := prog_3_method_3_code
def yX1_isLot : MethodName := ⟨RX1, "isLot", "(I)Z"⟩
abbrev cX1_isDrain : ByteArray := prog_3_method_4_code
def yX1_isDrain : MethodName := ⟨RX1, "isDrain", "(I)Z"⟩
abbrev cX1_canTake : ByteArray := prog_3_method_5_code
def yX1_canTake : MethodName := ⟨RX1, "canTake", "(I)Z"⟩
abbrev cX1_add : ByteArray := prog_3_method_6_code
def yX1_add : MethodName := ⟨RX1, "add", "(I)I"⟩
abbrev cX1_addLot : ByteArray := prog_3_method_7_code
def yX1_addLot : MethodName := ⟨RX1, "addLot", "(JJ)I"⟩
def RX2 : String := "LotFlows$RecallList"
def TX2 : u_T := fun k => match k with
  | 0 => ("LotFlows$RecallList", "count", "I", false)
  | 1 => ("LotFlows$RecallList", "spot", "[I", true)
  | 2 => ("LotFlows$RecallList", "units", "[J", true)
  | _ => ("LotFlows$RecallList", "holders", "[I", true)
def tyX2 : Nat → FieldType := fun k => match k with
  | 0 => .int
  | 1 => .array .int
  | 2 => .array .long
  | _ => .array .int
abbrev wsX20 : List Cond := u_ws RX2 TX2 4
theorem nmX2 : ∀ a, a < 4 → ∀ b, b < 4 → a ≠ b → (TX2 a).2.1 ≠ (TX2 b).2.1 := by decide +kernel
theorem tyX2_ok : ∀ k, k < 4 → parseFieldDescriptor (TX2 k).2.2.1 = some (tyX2 k) := by decide +kernel
abbrev cX2_init : ByteArray := prog_4_method_1_code
def yX2_init : MethodName := ⟨RX2, "<init>", "()V"⟩
abbrev cX2_enter : ByteArray := prog_4_method_2_code
def yX2_enter : MethodName := ⟨RX2, "enter", "(IJ)V"⟩
abbrev cX2_insert : ByteArray := prog_4_method_3_code
def yX2_insert : MethodName := ⟨RX2, "insert", "(IIJ)V"⟩
def RX3 : String := "LotFlows$Stock"
def TX3 : u_T := fun k => match k with
  | 0 => ("LotFlows$Stock", "nodes", "LLotFlows$Nodes;", true)
  | 1 => ("LotFlows$Stock", "units", "[J", true)
  | 2 => ("LotFlows$Stock", "came", "[J", true)
  | 3 => ("LotFlows$Stock", "went", "[J", true)
  | 4 => ("LotFlows$Stock", "drained", "[J", true)
  | 5 => ("LotFlows$Stock", "reached", "[J", true)
  | 6 => ("LotFlows$Stock", "portion", "[J", true)
  | _ => ("LotFlows$Stock", "rest", "[J", true)
def tyX3 : Nat → FieldType := fun k => match k with
  | 0 => .object "LotFlows$Nodes"
  | 1 => .array .long
  | 2 => .array .long
  | 3 => .array .long
  | 4 => .array .long
  | 5 => .array .long
  | 6 => .array .long
  | _ => .array .long
abbrev wsX30 : List Cond := u_ws RX3 TX3 8
theorem nmX3 : ∀ a, a < 8 → ∀ b, b < 8 → a ≠ b → (TX3 a).2.1 ≠ (TX3 b).2.1 := by decide +kernel
theorem tyX3_ok : ∀ k, k < 8 → parseFieldDescriptor (TX3 k).2.2.1 = some (tyX3 k) := by decide +kernel
abbrev cX3_init : ByteArray := prog_5_method_1_code
def yX3_init : MethodName := ⟨RX3, "<init>", "(LLotFlows$Nodes;)V"⟩
abbrev cX3_unitsIn : ByteArray := prog_5_method_2_code
def yX3_unitsIn : MethodName := ⟨RX3, "unitsIn", "(I)J"⟩
abbrev cX3_unitsOf : ByteArray := prog_5_method_3_code
def yX3_unitsOf : MethodName := ⟨RX3, "unitsOf", "(II)J"⟩
abbrev cX3_hasReached : ByteArray := prog_5_method_4_code
def yX3_hasReached : MethodName := ⟨RX3, "hasReached", "(II)Z"⟩
abbrev cX3_sumOfLots : ByteArray := prog_5_method_5_code
def yX3_sumOfLots : MethodName := ⟨RX3, "sumOfLots", "(I)J"⟩
abbrev cX3_admit : ByteArray := prog_5_method_6_code
def yX3_admit : MethodName := ⟨RX3, "admit", "(I)V"⟩
abbrev cX3_replay : ByteArray := prog_5_method_7_code
def yX3_replay : MethodName := ⟨RX3, "replay", "(LLotFlows$Flows;)Z"⟩
abbrev cX3_clear : ByteArray := prog_5_method_8_code
def yX3_clear : MethodName := ⟨RX3, "clear", "()V"⟩
abbrev cX3_move : ByteArray := prog_5_method_9_code
def yX3_move : MethodName := ⟨RX3, "move", "(IIJ)Z"⟩
abbrev cX3_part : ByteArray := prog_5_method_10_code
def yX3_part : MethodName := ⟨RX3, "part", "(IJJ)V"⟩
abbrev cX3_greatestRest : ByteArray := prog_5_method_11_code
def yX3_greatestRest : MethodName := ⟨RX3, "greatestRest", "()I"⟩
abbrev cX3_countOtherNodes : ByteArray := prog_5_method_12_code
def yX3_countOtherNodes : MethodName := ⟨RX3, "countOtherNodes", "(LLotFlows$Stock;)I"⟩
abbrev cX3_differs : ByteArray := prog_5_method_13_code
def yX3_differs : MethodName := ⟨RX3, "differs", "(LLotFlows$Stock;I)Z"⟩
def RX4 : String := "LotFlows"
def TX4 : u_T := fun k => match k with
  | 0 => ("LotFlows", "nodes", "LLotFlows$Nodes;", true)
  | 1 => ("LotFlows", "flows", "LLotFlows$Flows;", true)
  | 2 => ("LotFlows", "list", "LLotFlows$RecallList;", true)
  | 3 => ("LotFlows", "stock", "LLotFlows$Stock;", false)
  | 4 => ("LotFlows", "trial", "LLotFlows$Stock;", false)
  | _ => ("LotFlows", "lastTold", "J", false)
def tyX4 : Nat → FieldType := fun k => match k with
  | 0 => .object "LotFlows$Nodes"
  | 1 => .object "LotFlows$Flows"
  | 2 => .object "LotFlows$RecallList"
  | 3 => .object "LotFlows$Stock"
  | 4 => .object "LotFlows$Stock"
  | _ => .long
abbrev wsX40 : List Cond := u_ws RX4 TX4 6
theorem nmX4 : ∀ a, a < 6 → ∀ b, b < 6 → a ≠ b → (TX4 a).2.1 ≠ (TX4 b).2.1 := by decide +kernel
theorem tyX4_ok : ∀ k, k < 6 → parseFieldDescriptor (TX4 k).2.2.1 = some (tyX4 k) := by decide +kernel
abbrev cX4_init : ByteArray := prog_1_method_1_code
def yX4_init : MethodName := ⟨RX4, "<init>", "()V"⟩
abbrev cX4_lot : ByteArray := prog_1_method_2_code
def yX4_lot : MethodName := ⟨RX4, "lot", "(JJ)I"⟩
abbrev cX4_thing : ByteArray := prog_1_method_3_code
def yX4_thing : MethodName := ⟨RX4, "thing", "(I)I"⟩
abbrev cX4_flow : ByteArray := prog_1_method_4_code
def yX4_flow : MethodName := ⟨RX4, "flow", "(IIJJ)V"⟩
abbrev cX4_left : ByteArray := prog_1_method_5_code
def yX4_left : MethodName := ⟨RX4, "left", "(I)J"⟩
abbrev cX4_share : ByteArray := prog_1_method_6_code
def yX4_share : MethodName := ⟨RX4, "share", "(III)J"⟩
abbrev cX4_back : ByteArray := prog_1_method_7_code
def yX4_back : MethodName := ⟨RX4, "back", "(II)I"⟩
abbrev cX4_forward : ByteArray := prog_1_method_8_code
def yX4_forward : MethodName := ⟨RX4, "forward", "(II)I"⟩
abbrev cX4_place : ByteArray := prog_1_method_9_code
def yX4_place : MethodName := ⟨RX4, "place", "(III)Z"⟩
abbrev cX4_recall : ByteArray := prog_1_method_10_code
def yX4_recall : MethodName := ⟨RX4, "recall", "(I)I"⟩
abbrev cX4_recalled : ByteArray := prog_1_method_11_code
def yX4_recalled : MethodName := ⟨RX4, "recalled", "(II)I"⟩
abbrev cX4_hold : ByteArray := prog_1_method_12_code
def yX4_hold : MethodName := ⟨RX4, "hold", "(IZ)Z"⟩
abbrev cX4_correct : ByteArray := prog_1_method_13_code
def yX4_correct : MethodName := ⟨RX4, "correct", "(IJJ)I"⟩
abbrev cX4_top : ByteArray := prog_1_method_14_code
def yX4_top : MethodName := ⟨RX4, "top", "(IIJ)I"⟩
abbrev cX4_whole : ByteArray := prog_1_method_15_code
def yX4_whole : MethodName := ⟨RX4, "whole", "(I)Z"⟩
abbrev cX4_loss : ByteArray := prog_1_method_16_code
def yX4_loss : MethodName := ⟨RX4, "loss", "(I)J"⟩
abbrev cX4_isAmount : ByteArray := prog_1_method_17_code
def yX4_isAmount : MethodName := ⟨RX4, "isAmount", "(J)Z"⟩
abbrev cX4_isDay : ByteArray := prog_1_method_18_code
def yX4_isDay : MethodName := ⟨RX4, "isDay", "(J)Z"⟩
abbrev cX4_greatestDivisor : ByteArray := prog_1_method_19_code
def yX4_greatestDivisor : MethodName := ⟨RX4, "greatestDivisor", "(JJ)J"⟩
abbrev cX4_tell : ByteArray := prog_1_method_20_code
def yX4_tell : MethodName := ⟨RX4, "tell", "(IIJJ)Z"⟩
abbrev cX4_takeTrial : ByteArray := prog_1_method_21_code
def yX4_takeTrial : MethodName := ⟨RX4, "takeTrial", "()V"⟩
abbrev cX4_canGive : ByteArray := prog_1_method_22_code
def yX4_canGive : MethodName := ⟨RX4, "canGive", "(IIJ)J"⟩
abbrev cX4_countTopFlows : ByteArray := prog_1_method_23_code
def yX4_countTopFlows : MethodName := ⟨RX4, "countTopFlows", "(IJJ)I"⟩
abbrev cX4_tellTopFlows : ByteArray := prog_1_method_24_code
def yX4_tellTopFlows : MethodName := ⟨RX4, "tellTopFlows", "(IIJJ)V"⟩
def RX5 : String := "LotFlowsModel"
def TX5 : u_T := fun k => match k with
  | 0 => ("LotFlowsModel", "kinds", "[I", true)
  | 1 => ("LotFlowsModel", "amounts", "[J", true)
  | 2 => ("LotFlowsModel", "days", "[J", true)
  | 3 => ("LotFlowsModel", "places", "[I", true)
  | 4 => ("LotFlowsModel", "customers", "[I", true)
  | 5 => ("LotFlowsModel", "held", "[Z", true)
  | 6 => ("LotFlowsModel", "nodes", "I", false)
  | 7 => ("LotFlowsModel", "froms", "[I", true)
  | 8 => ("LotFlowsModel", "tos", "[I", true)
  | 9 => ("LotFlowsModel", "flows", "[J", true)
  | 10 => ("LotFlowsModel", "flowDays", "[J", true)
  | 11 => ("LotFlowsModel", "count", "I", false)
  | 12 => ("LotFlowsModel", "lastTold", "J", false)
  | 13 => ("LotFlowsModel", "units", "[J", true)
  | 14 => ("LotFlowsModel", "came", "[Z", true)
  | 15 => ("LotFlowsModel", "before", "[J", true)
  | 16 => ("LotFlowsModel", "rests", "[J", true)
  | 17 => ("LotFlowsModel", "parts", "[J", true)
  | 18 => ("LotFlowsModel", "order", "[I", true)
  | 19 => ("LotFlowsModel", "rows", "I", false)
  | 20 => ("LotFlowsModel", "rowPlaces", "[I", true)
  | 21 => ("LotFlowsModel", "rowCustomers", "[I", true)
  | 22 => ("LotFlowsModel", "rowUnits", "[J", true)
  | 23 => ("LotFlowsModel", "rowThings", "[I", true)
  | _ => ("LotFlowsModel", "thrown", "I", false)
def tyX5 : Nat → FieldType := fun k => match k with
  | 0 => .array .int
  | 1 => .array .long
  | 2 => .array .long
  | 3 => .array .int
  | 4 => .array .int
  | 5 => .array .boolean
  | 6 => .int
  | 7 => .array .int
  | 8 => .array .int
  | 9 => .array .long
  | 10 => .array .long
  | 11 => .int
  | 12 => .long
  | 13 => .array .long
  | 14 => .array .boolean
  | 15 => .array .long
  | 16 => .array .long
  | 17 => .array .long
  | 18 => .array .int
  | 19 => .int
  | 20 => .array .int
  | 21 => .array .int
  | 22 => .array .long
  | 23 => .array .int
  | _ => .int
abbrev wsX50 : List Cond := u_ws RX5 TX5 25
theorem nmX5 : ∀ a, a < 25 → ∀ b, b < 25 → a ≠ b → (TX5 a).2.1 ≠ (TX5 b).2.1 := by decide +kernel
theorem tyX5_ok : ∀ k, k < 25 → parseFieldDescriptor (TX5 k).2.2.1 = some (tyX5 k) := by decide +kernel
abbrev cX5_init : ByteArray := prog_7_method_1_code
def yX5_init : MethodName := ⟨RX5, "<init>", "()V"⟩
abbrev cX5_thrown : ByteArray := prog_7_method_2_code
def yX5_thrown : MethodName := ⟨RX5, "thrown", "()I"⟩
abbrev cX5_isNode : ByteArray := prog_7_method_3_code
def yX5_isNode : MethodName := ⟨RX5, "isNode", "(I)Z"⟩
abbrev cX5_isLot : ByteArray := prog_7_method_4_code
def yX5_isLot : MethodName := ⟨RX5, "isLot", "(I)Z"⟩
abbrev cX5_make : ByteArray := prog_7_method_5_code
def yX5_make : MethodName := ⟨RX5, "make", "(IJJ)I"⟩
abbrev cX5_lot : ByteArray := prog_7_method_6_code
def yX5_lot : MethodName := ⟨RX5, "lot", "(JJ)I"⟩
abbrev cX5_thing : ByteArray := prog_7_method_7_code
def yX5_thing : MethodName := ⟨RX5, "thing", "(I)I"⟩
abbrev cX5_part : ByteArray := prog_7_method_8_code
def yX5_part : MethodName := ⟨RX5, "part", "(IJJ)V"⟩
abbrev cX5_walk : ByteArray := prog_7_method_9_code
def yX5_walk : MethodName := ⟨RX5, "walk", "()Z"⟩
abbrev cX5_sum : ByteArray := prog_7_method_10_code
def yX5_sum : MethodName := ⟨RX5, "sum", "(I)J"⟩
abbrev cX5_flow : ByteArray := prog_7_method_11_code
def yX5_flow : MethodName := ⟨RX5, "flow", "(IIJJ)V"⟩
abbrev cX5_put : ByteArray := prog_7_method_12_code
def yX5_put : MethodName := ⟨RX5, "put", "(IIJJ)V"⟩
abbrev cX5_left : ByteArray := prog_7_method_13_code
def yX5_left : MethodName := ⟨RX5, "left", "(I)J"⟩
abbrev cX5_share : ByteArray := prog_7_method_14_code
def yX5_share : MethodName := ⟨RX5, "share", "(III)J"⟩
abbrev cX5_back : ByteArray := prog_7_method_15_code
def yX5_back : MethodName := ⟨RX5, "back", "(II)I"⟩
abbrev cX5_forward : ByteArray := prog_7_method_16_code
def yX5_forward : MethodName := ⟨RX5, "forward", "(II)I"⟩
abbrev cX5_place : ByteArray := prog_7_method_17_code
def yX5_place : MethodName := ⟨RX5, "place", "(III)Z"⟩
abbrev cX5_recall : ByteArray := prog_7_method_18_code
def yX5_recall : MethodName := ⟨RX5, "recall", "(I)I"⟩
abbrev cX5_recalled : ByteArray := prog_7_method_19_code
def yX5_recalled : MethodName := ⟨RX5, "recalled", "(II)I"⟩
abbrev cX5_hold : ByteArray := prog_7_method_20_code
def yX5_hold : MethodName := ⟨RX5, "hold", "(IZ)Z"⟩
abbrev cX5_correct : ByteArray := prog_7_method_21_code
def yX5_correct : MethodName := ⟨RX5, "correct", "(IJJ)I"⟩
abbrev cX5_top : ByteArray := prog_7_method_22_code
def yX5_top : MethodName := ⟨RX5, "top", "(IIJ)I"⟩
abbrev cX5_whole : ByteArray := prog_7_method_23_code
def yX5_whole : MethodName := ⟨RX5, "whole", "(I)Z"⟩
abbrev cX5_loss : ByteArray := prog_7_method_24_code
def yX5_loss : MethodName := ⟨RX5, "loss", "(I)J"⟩
def RJ9 : String := "java/lang/Math"
def TJ9 : u_T := fun k => match k with
  | _ => ("", "", "", false)
def tyJ9 : Nat → FieldType := fun k => match k with
  | _ => .int
abbrev wsJ90 : List Cond := u_ws RJ9 TJ9 0
theorem nmJ9 : ∀ a, a < 0 → ∀ b, b < 0 → a ≠ b → (TJ9 a).2.1 ≠ (TJ9 b).2.1 := by decide +kernel
theorem tyJ9_ok : ∀ k, k < 0 → parseFieldDescriptor (TJ9 k).2.2.1 = some (tyJ9 k) := by decide +kernel
abbrev cJ9_min_f86c9 : ByteArray := prog_12_method_70_code
def yJ9_min_f86c9 : MethodName := ⟨RJ9, "min", "(JJ)J"⟩
def RJ0 : String := "java/lang/String"
def TJ0 : u_T := fun k => match k with
  | _ => ("", "", "", false)
def tyJ0 : Nat → FieldType := fun k => match k with
  | _ => .int
abbrev wsJ00 : List Cond := u_ws RJ0 TJ0 0
theorem nmJ0 : ∀ a, a < 0 → ∀ b, b < 0 → a ≠ b → (TJ0 a).2.1 ≠ (TJ0 b).2.1 := by decide +kernel
theorem tyJ0_ok : ∀ k, k < 0 → parseFieldDescriptor (TJ0 k).2.2.1 = some (tyJ0 k) := by decide +kernel
def RJ10 : String := "java/lang/System"
def TJ10 : u_T := fun k => match k with
  | _ => ("", "", "", false)
def tyJ10 : Nat → FieldType := fun k => match k with
  | _ => .int
abbrev wsJ100 : List Cond := u_ws RJ10 TJ10 0
theorem nmJ10 : ∀ a, a < 0 → ∀ b, b < 0 → a ≠ b → (TJ10 a).2.1 ≠ (TJ10 b).2.1 := by decide +kernel
theorem tyJ10_ok : ∀ k, k < 0 → parseFieldDescriptor (TJ10 k).2.2.1 = some (tyJ10 k) := by decide +kernel
def RJ7 : String := "java/util/Arrays"
def TJ7 : u_T := fun k => match k with
  | _ => ("", "", "", false)
def tyJ7 : Nat → FieldType := fun k => match k with
  | _ => .int
abbrev wsJ70 : List Cond := u_ws RJ7 TJ7 0
theorem nmJ7 : ∀ a, a < 0 → ∀ b, b < 0 → a ≠ b → (TJ7 a).2.1 ≠ (TJ7 b).2.1 := by decide +kernel
theorem tyJ7_ok : ∀ k, k < 0 → parseFieldDescriptor (TJ7 k).2.2.1 = some (tyJ7 k) := by decide +kernel
abbrev cJ7_fill_d0a16 : ByteArray := prog_17_method_101_code
def yJ7_fill_d0a16 : MethodName := ⟨RJ7, "fill", "([JJ)V"⟩
def RL : String := "LotFlowsLaw"
abbrev cL_flow : ByteArray := method_3_code
def yL_flow : MethodName := ⟨RL, "flow", "(LLotFlows;IIJJ)I"⟩
abbrev cL_law : ByteArray := code
def yL_law : MethodName := ⟨RL, "law", "([I)Z"⟩
def wsX0_init : List Cond := .code yX0_init cX0_init 1 none :: ([.methodLink RX0 3 objectInit, .instanceMethod objectInit, .code objectInit ⟨#[0xb1]⟩ 1 none, .arrayClass .int, .fieldLink RX0 9 "LotFlows$Flows" "from" "[I", .fieldLink RX0 15 "LotFlows$Flows" "to" "[I", .arrayClass .long, .fieldLink RX0 18 "LotFlows$Flows" "amount" "[J", .fieldLink RX0 22 "LotFlows$Flows" "day" "[J", .fieldLink RX0 25 "LotFlows$Flows" "order" "[I"] ++ wsX00)
def wsX0_greatestDay : List Cond := .code yX0_greatestDay cX0_greatestDay 1 (some .long) :: ([.fieldLink RX0 28 "LotFlows$Flows" "count" "I", .fieldLink RX0 22 "LotFlows$Flows" "day" "[J", .fieldLink RX0 25 "LotFlows$Flows" "order" "[I"] ++ wsX00)
def wsX0_turnFor : List Cond := .code yX0_turnFor cX0_turnFor 4 (some .int) :: ([.fieldLink RX0 28 "LotFlows$Flows" "count" "I", .fieldLink RX0 22 "LotFlows$Flows" "day" "[J", .fieldLink RX0 25 "LotFlows$Flows" "order" "[I"] ++ wsX00)
def wsX0_insert : List Cond := .code yX0_insert cX0_insert 9 none :: ([.fieldLink RX0 28 "LotFlows$Flows" "count" "I", .fieldLink RX0 9 "LotFlows$Flows" "from" "[I", .fieldLink RX0 15 "LotFlows$Flows" "to" "[I", .fieldLink RX0 18 "LotFlows$Flows" "amount" "[J", .fieldLink RX0 22 "LotFlows$Flows" "day" "[J", .fieldLink RX0 25 "LotFlows$Flows" "order" "[I"] ++ wsX00)
def wsX0_removeNewest : List Cond := .code yX0_removeNewest cX0_removeNewest 3 none :: ([.fieldLink RX0 28 "LotFlows$Flows" "count" "I", .fieldLink RX0 25 "LotFlows$Flows" "order" "[I"] ++ wsX00)
def wsX1_init : List Cond := .code yX1_init cX1_init 1 none :: ([.methodLink RX1 3 objectInit, .instanceMethod objectInit, .code objectInit ⟨#[0xb1]⟩ 1 none, .arrayClass .int, .fieldLink RX1 9 "LotFlows$Nodes" "kind" "[I", .arrayClass .long, .fieldLink RX1 15 "LotFlows$Nodes" "amount" "[J", .fieldLink RX1 19 "LotFlows$Nodes" "day" "[J", .arrayClass .boolean, .fieldLink RX1 22 "LotFlows$Nodes" "held" "[Z", .fieldLink RX1 26 "LotFlows$Nodes" "spot" "[I", .fieldLink RX1 29 "LotFlows$Nodes" "lotsByAge" "[I"] ++ wsX10)
def wsX1_has : List Cond := .code yX1_has cX1_has 2 (some .boolean) :: ([.fieldLink RX1 32 "LotFlows$Nodes" "count" "I"] ++ wsX10)
def wsX1_isLot : List Cond := .code yX1_isLot cX1_isLot 2 (some .boolean) :: ([.fieldLink RX1 9 "LotFlows$Nodes" "kind" "[I", .methodLink RX1 36 yX1_has, .instanceMethod yX1_has, .selects RX1 yX1_has yX1_has, .initialized RX1, .code yX1_has cX1_has 2 (some .boolean), .fieldLink RX1 32 "LotFlows$Nodes" "count" "I"] ++ wsX10)
def wsX1_isDrain : List Cond := .code yX1_isDrain cX1_isDrain 2 (some .boolean) :: ([.fieldLink RX1 9 "LotFlows$Nodes" "kind" "[I", .methodLink RX1 36 yX1_has, .instanceMethod yX1_has, .selects RX1 yX1_has yX1_has, .initialized RX1, .code yX1_has cX1_has 2 (some .boolean), .fieldLink RX1 32 "LotFlows$Nodes" "count" "I"] ++ wsX10)
def wsX1_canTake : List Cond := .code yX1_canTake cX1_canTake 2 (some .boolean) :: ([.fieldLink RX1 9 "LotFlows$Nodes" "kind" "[I", .methodLink RX1 36 yX1_has, .instanceMethod yX1_has, .selects RX1 yX1_has yX1_has, .initialized RX1, .code yX1_has cX1_has 2 (some .boolean), .fieldLink RX1 32 "LotFlows$Nodes" "count" "I"] ++ wsX10)
def wsX1_add : List Cond := .code yX1_add cX1_add 2 (some .int) :: ([.fieldLink RX1 32 "LotFlows$Nodes" "count" "I", .fieldLink RX1 9 "LotFlows$Nodes" "kind" "[I", .fieldLink RX1 26 "LotFlows$Nodes" "spot" "[I"] ++ wsX10)
def wsX1_addLot : List Cond := .code yX1_addLot cX1_addLot 7 (some .int) :: ([.fieldLink RX1 15 "LotFlows$Nodes" "amount" "[J", .fieldLink RX1 19 "LotFlows$Nodes" "day" "[J", .fieldLink RX1 44 "LotFlows$Nodes" "lotCount" "I", .fieldLink RX1 29 "LotFlows$Nodes" "lotsByAge" "[I", .methodLink RX1 40 yX1_add, .instanceMethod yX1_add, .selects RX1 yX1_add yX1_add, .initialized RX1, .code yX1_add cX1_add 2 (some .int), .fieldLink RX1 32 "LotFlows$Nodes" "count" "I", .fieldLink RX1 9 "LotFlows$Nodes" "kind" "[I", .fieldLink RX1 26 "LotFlows$Nodes" "spot" "[I"] ++ wsX10)
def wsX2_init : List Cond := .code yX2_init cX2_init 1 none :: ([.methodLink RX2 3 objectInit, .instanceMethod objectInit, .code objectInit ⟨#[0xb1]⟩ 1 none, .arrayClass .int, .fieldLink RX2 9 "LotFlows$RecallList" "spot" "[I", .arrayClass .long, .fieldLink RX2 15 "LotFlows$RecallList" "units" "[J", .fieldLink RX2 19 "LotFlows$RecallList" "holders" "[I"] ++ wsX20)
def wsX2_insert : List Cond := .code yX2_insert cX2_insert 6 none :: ([.fieldLink RX2 22 "LotFlows$RecallList" "count" "I", .fieldLink RX2 9 "LotFlows$RecallList" "spot" "[I", .fieldLink RX2 15 "LotFlows$RecallList" "units" "[J", .fieldLink RX2 19 "LotFlows$RecallList" "holders" "[I"] ++ wsX20)
def wsX2_enter : List Cond := .code yX2_enter cX2_enter 5 none :: ([.fieldLink RX2 22 "LotFlows$RecallList" "count" "I", .fieldLink RX2 9 "LotFlows$RecallList" "spot" "[I", .fieldLink RX2 15 "LotFlows$RecallList" "units" "[J", .fieldLink RX2 19 "LotFlows$RecallList" "holders" "[I", .methodLink RX2 26 yX2_insert, .instanceMethod yX2_insert, .selects RX2 yX2_insert yX2_insert, .initialized RX2, .code yX2_insert cX2_insert 6 none] ++ wsX20)
def wsX3_init : List Cond := .code yX3_init cX3_init 2 none :: ([.methodLink RX3 3 objectInit, .instanceMethod objectInit, .code objectInit ⟨#[0xb1]⟩ 1 none, .arrayClass .long, .fieldLink RX3 9 "LotFlows$Stock" "units" "[J", .fieldLink RX3 15 "LotFlows$Stock" "came" "[J", .fieldLink RX3 18 "LotFlows$Stock" "went" "[J", .fieldLink RX3 21 "LotFlows$Stock" "drained" "[J", .fieldLink RX3 24 "LotFlows$Stock" "reached" "[J", .fieldLink RX3 27 "LotFlows$Stock" "portion" "[J", .fieldLink RX3 30 "LotFlows$Stock" "rest" "[J", .fieldLink RX3 33 "LotFlows$Stock" "nodes" "LLotFlows$Nodes;"] ++ wsX30)
def wsX3_unitsIn : List Cond := .code yX3_unitsIn cX3_unitsIn 2 (some .long) :: ([.fieldLink RX3 15 "LotFlows$Stock" "came" "[J", .fieldLink RX3 18 "LotFlows$Stock" "went" "[J"] ++ wsX30)
def wsX3_unitsOf : List Cond := .code yX3_unitsOf cX3_unitsOf 3 (some .long) :: ([.fieldLink RX3 9 "LotFlows$Stock" "units" "[J"] ++ wsX30)
def wsX3_hasReached : List Cond := .code yX3_hasReached cX3_hasReached 3 (some .boolean) :: ([.fieldLink RX3 24 "LotFlows$Stock" "reached" "[J"] ++ wsX30)
def wsX3_sumOfLots : List Cond := .code yX3_sumOfLots cX3_sumOfLots 5 (some .long) :: ([.fieldLink RX3 33 "LotFlows$Stock" "nodes" "LLotFlows$Nodes;", .fieldLink RX3 37 "LotFlows$Nodes" "count" "I", .methodLink RX3 43 yX3_unitsOf, .instanceMethod yX3_unitsOf, .selects RX3 yX3_unitsOf yX3_unitsOf, .initialized RX3, .code yX3_unitsOf cX3_unitsOf 3 (some .long), .fieldLink RX3 9 "LotFlows$Stock" "units" "[J"] ++ wsX30 ++ wsX10)
def wsX3_admit : List Cond := .code yX3_admit cX3_admit 2 none :: ([.fieldLink RX3 33 "LotFlows$Stock" "nodes" "LLotFlows$Nodes;", .fieldLink RX3 9 "LotFlows$Stock" "units" "[J", .fieldLink RX3 51 "LotFlows$Nodes" "amount" "[J", .fieldLink RX3 15 "LotFlows$Stock" "came" "[J", .fieldLink RX3 24 "LotFlows$Stock" "reached" "[J", .methodLink RX3 47 yX1_isLot, .instanceMethod yX1_isLot, .selects RX1 yX1_isLot yX1_isLot, .initialized RX1, .code yX1_isLot cX1_isLot 2 (some .boolean), .fieldLink RX1 9 "LotFlows$Nodes" "kind" "[I", .methodLink RX1 36 yX1_has, .instanceMethod yX1_has, .selects RX1 yX1_has yX1_has, .code yX1_has cX1_has 2 (some .boolean), .fieldLink RX1 32 "LotFlows$Nodes" "count" "I"] ++ wsX30 ++ wsX10)
def wsJ7_fill_d0a16 : List Cond := .code yJ7_fill_d0a16 cJ7_fill_d0a16 5 none :: ([])
def wsX3_clear_r1 : List Cond := [Cond.fieldLink RX3 9 "LotFlows$Stock" "units" "[J", Cond.fieldLink RX3 15 "LotFlows$Stock" "came" "[J", Cond.fieldLink RX3 18 "LotFlows$Stock" "went" "[J", Cond.fieldLink RX3 21 "LotFlows$Stock" "drained" "[J", Cond.fieldLink RX3 24 "LotFlows$Stock" "reached" "[J", Cond.fieldLink RX3 33 "LotFlows$Stock" "nodes" "LLotFlows$Nodes;", Cond.fieldLink RX3 37 "LotFlows$Nodes" "count" "I", Cond.methodLink RX3 75 yJ7_fill_d0a16, Cond.static yJ7_fill_d0a16, Cond.initialized RJ7, Cond.code yJ7_fill_d0a16 cJ7_fill_d0a16 5 none, Cond.methodLink RX3 81 yX3_admit, Cond.instanceMethod yX3_admit, Cond.selects RX3 yX3_admit yX3_admit, Cond.initialized RX3, Cond.code yX3_admit cX3_admit 2 none, Cond.fieldLink RX3 51 "LotFlows$Nodes" "amount" "[J", Cond.methodLink RX3 47 yX1_isLot, Cond.instanceMethod yX1_isLot, Cond.selects RX1 yX1_isLot yX1_isLot, Cond.initialized RX1, Cond.code yX1_isLot cX1_isLot 2 (some .boolean), Cond.fieldLink RX1 9 "LotFlows$Nodes" "kind" "[I", Cond.methodLink RX1 36 yX1_has]
def wsX3_clear_r2 : List Cond := [Cond.instanceMethod yX1_has, Cond.selects RX1 yX1_has yX1_has, Cond.code yX1_has cX1_has 2 (some .boolean), Cond.fieldLink RX1 32 "LotFlows$Nodes" "count" "I"]
def wsX3_clear : List Cond := .code yX3_clear cX3_clear 2 none :: ((wsX3_clear_r1 ++ wsX3_clear_r2) ++ wsX30 ++ wsX10)
def wsX3_greatestRest : List Cond := .code yX3_greatestRest cX3_greatestRest 3 (some .int) :: ([.fieldLink RX3 33 "LotFlows$Stock" "nodes" "LLotFlows$Nodes;", .fieldLink RX3 37 "LotFlows$Nodes" "count" "I", .fieldLink RX3 30 "LotFlows$Stock" "rest" "[J"] ++ wsX30 ++ wsX10)
def wsX3_part : List Cond := .code yX3_part cX3_part 11 none :: ([.fieldLink RX3 33 "LotFlows$Stock" "nodes" "LLotFlows$Nodes;", .fieldLink RX3 37 "LotFlows$Nodes" "count" "I", .fieldLink RX3 27 "LotFlows$Stock" "portion" "[J", .fieldLink RX3 30 "LotFlows$Stock" "rest" "[J", .methodLink RX3 43 yX3_unitsOf, .instanceMethod yX3_unitsOf, .selects RX3 yX3_unitsOf yX3_unitsOf, .initialized RX3, .code yX3_unitsOf cX3_unitsOf 3 (some .long), .fieldLink RX3 9 "LotFlows$Stock" "units" "[J", .methodLink RX3 96 yX3_greatestRest, .instanceMethod yX3_greatestRest, .selects RX3 yX3_greatestRest yX3_greatestRest, .code yX3_greatestRest cX3_greatestRest 3 (some .int)] ++ wsX30 ++ wsX10)
def wsX3_move_r1 : List Cond := [Cond.fieldLink RX3 33 "LotFlows$Stock" "nodes" "LLotFlows$Nodes;", Cond.fieldLink RX3 37 "LotFlows$Nodes" "count" "I", Cond.fieldLink RX3 27 "LotFlows$Stock" "portion" "[J", Cond.fieldLink RX3 9 "LotFlows$Stock" "units" "[J", Cond.fieldLink RX3 24 "LotFlows$Stock" "reached" "[J", Cond.fieldLink RX3 18 "LotFlows$Stock" "went" "[J", Cond.fieldLink RX3 15 "LotFlows$Stock" "came" "[J", Cond.fieldLink RX3 21 "LotFlows$Stock" "drained" "[J", Cond.methodLink RX3 85 yX3_unitsIn, Cond.instanceMethod yX3_unitsIn, Cond.selects RX3 yX3_unitsIn yX3_unitsIn, Cond.initialized RX3, Cond.code yX3_unitsIn cX3_unitsIn 2 (some .long), Cond.methodLink RX3 89 yX3_part, Cond.instanceMethod yX3_part, Cond.selects RX3 yX3_part yX3_part, Cond.code yX3_part cX3_part 11 none, Cond.fieldLink RX3 30 "LotFlows$Stock" "rest" "[J", Cond.methodLink RX3 43 yX3_unitsOf, Cond.instanceMethod yX3_unitsOf, Cond.selects RX3 yX3_unitsOf yX3_unitsOf, Cond.code yX3_unitsOf cX3_unitsOf 3 (some .long), Cond.methodLink RX3 96 yX3_greatestRest, Cond.instanceMethod yX3_greatestRest]
def wsX3_move_r2 : List Cond := [Cond.selects RX3 yX3_greatestRest yX3_greatestRest, Cond.code yX3_greatestRest cX3_greatestRest 3 (some .int), Cond.methodLink RX3 93 yX1_isDrain, Cond.instanceMethod yX1_isDrain, Cond.selects RX1 yX1_isDrain yX1_isDrain, Cond.initialized RX1, Cond.code yX1_isDrain cX1_isDrain 2 (some .boolean), Cond.fieldLink RX1 9 "LotFlows$Nodes" "kind" "[I", Cond.methodLink RX1 36 yX1_has, Cond.instanceMethod yX1_has, Cond.selects RX1 yX1_has yX1_has, Cond.code yX1_has cX1_has 2 (some .boolean), Cond.fieldLink RX1 32 "LotFlows$Nodes" "count" "I"]
def wsX3_move : List Cond := .code yX3_move cX3_move 8 (some .boolean) :: ((wsX3_move_r1 ++ wsX3_move_r2) ++ wsX30 ++ wsX10)
def wsX3_replay_r1 : List Cond := [Cond.fieldLink RX3 57 "LotFlows$Flows" "count" "I", Cond.fieldLink RX3 60 "LotFlows$Flows" "order" "[I", Cond.fieldLink RX3 64 "LotFlows$Flows" "amount" "[J", Cond.fieldLink RX3 65 "LotFlows$Flows" "from" "[I", Cond.fieldLink RX3 68 "LotFlows$Flows" "to" "[I", Cond.methodLink RX3 54 yX3_clear, Cond.instanceMethod yX3_clear, Cond.selects RX3 yX3_clear yX3_clear, Cond.initialized RX3, Cond.code yX3_clear cX3_clear 2 none, Cond.fieldLink RX3 9 "LotFlows$Stock" "units" "[J", Cond.fieldLink RX3 15 "LotFlows$Stock" "came" "[J", Cond.fieldLink RX3 18 "LotFlows$Stock" "went" "[J", Cond.fieldLink RX3 21 "LotFlows$Stock" "drained" "[J", Cond.fieldLink RX3 24 "LotFlows$Stock" "reached" "[J", Cond.fieldLink RX3 33 "LotFlows$Stock" "nodes" "LLotFlows$Nodes;", Cond.fieldLink RX3 37 "LotFlows$Nodes" "count" "I", Cond.methodLink RX3 75 yJ7_fill_d0a16, Cond.static yJ7_fill_d0a16, Cond.initialized RJ7, Cond.code yJ7_fill_d0a16 cJ7_fill_d0a16 5 none, Cond.methodLink RX3 81 yX3_admit, Cond.instanceMethod yX3_admit, Cond.selects RX3 yX3_admit yX3_admit]
def wsX3_replay_r2 : List Cond := [Cond.code yX3_admit cX3_admit 2 none, Cond.fieldLink RX3 51 "LotFlows$Nodes" "amount" "[J", Cond.methodLink RX3 47 yX1_isLot, Cond.instanceMethod yX1_isLot, Cond.selects RX1 yX1_isLot yX1_isLot, Cond.initialized RX1, Cond.code yX1_isLot cX1_isLot 2 (some .boolean), Cond.fieldLink RX1 9 "LotFlows$Nodes" "kind" "[I", Cond.methodLink RX1 36 yX1_has, Cond.instanceMethod yX1_has, Cond.selects RX1 yX1_has yX1_has, Cond.code yX1_has cX1_has 2 (some .boolean), Cond.fieldLink RX1 32 "LotFlows$Nodes" "count" "I", Cond.methodLink RX3 71 yX3_move, Cond.instanceMethod yX3_move, Cond.selects RX3 yX3_move yX3_move, Cond.code yX3_move cX3_move 8 (some .boolean), Cond.fieldLink RX3 27 "LotFlows$Stock" "portion" "[J", Cond.methodLink RX3 85 yX3_unitsIn, Cond.instanceMethod yX3_unitsIn, Cond.selects RX3 yX3_unitsIn yX3_unitsIn, Cond.code yX3_unitsIn cX3_unitsIn 2 (some .long), Cond.methodLink RX3 89 yX3_part, Cond.instanceMethod yX3_part]
def wsX3_replay_r3 : List Cond := [Cond.selects RX3 yX3_part yX3_part, Cond.code yX3_part cX3_part 11 none, Cond.fieldLink RX3 30 "LotFlows$Stock" "rest" "[J", Cond.methodLink RX3 43 yX3_unitsOf, Cond.instanceMethod yX3_unitsOf, Cond.selects RX3 yX3_unitsOf yX3_unitsOf, Cond.code yX3_unitsOf cX3_unitsOf 3 (some .long), Cond.methodLink RX3 96 yX3_greatestRest, Cond.instanceMethod yX3_greatestRest, Cond.selects RX3 yX3_greatestRest yX3_greatestRest, Cond.code yX3_greatestRest cX3_greatestRest 3 (some .int), Cond.methodLink RX3 93 yX1_isDrain, Cond.instanceMethod yX1_isDrain, Cond.selects RX1 yX1_isDrain yX1_isDrain, Cond.code yX1_isDrain cX1_isDrain 2 (some .boolean)]
def wsX3_replay : List Cond := .code yX3_replay cX3_replay 4 (some .boolean) :: ((wsX3_replay_r1 ++ (wsX3_replay_r2 ++ wsX3_replay_r3)) ++ wsX00 ++ wsX30 ++ wsX10)
def wsX3_differs : List Cond := .code yX3_differs cX3_differs 4 (some .boolean) :: ([.fieldLink RX3 33 "LotFlows$Stock" "nodes" "LLotFlows$Nodes;", .fieldLink RX3 37 "LotFlows$Nodes" "count" "I", .methodLink RX3 43 yX3_unitsOf, .instanceMethod yX3_unitsOf, .selects RX3 yX3_unitsOf yX3_unitsOf, .initialized RX3, .code yX3_unitsOf cX3_unitsOf 3 (some .long), .fieldLink RX3 9 "LotFlows$Stock" "units" "[J"] ++ wsX30 ++ wsX10)
def wsX3_countOtherNodes : List Cond := .code yX3_countOtherNodes cX3_countOtherNodes 4 (some .int) :: ([.fieldLink RX3 33 "LotFlows$Stock" "nodes" "LLotFlows$Nodes;", .fieldLink RX3 37 "LotFlows$Nodes" "count" "I", .methodLink RX3 100 yX3_differs, .instanceMethod yX3_differs, .selects RX3 yX3_differs yX3_differs, .initialized RX3, .code yX3_differs cX3_differs 4 (some .boolean), .methodLink RX3 43 yX3_unitsOf, .instanceMethod yX3_unitsOf, .selects RX3 yX3_unitsOf yX3_unitsOf, .code yX3_unitsOf cX3_unitsOf 3 (some .long), .fieldLink RX3 9 "LotFlows$Stock" "units" "[J"] ++ wsX30 ++ wsX10)
def wsX4_init_r1 : List Cond := [Cond.methodLink RX4 1 objectInit, Cond.instanceMethod objectInit, Cond.code objectInit ⟨#[0xb1]⟩ 1 none, Cond.classLink RX4 7 RX1, Cond.instantiable RX1 8, Cond.initialized RX1, Cond.fieldLink RX4 10 "LotFlows" "nodes" "LLotFlows$Nodes;", Cond.classLink RX4 16 RX0, Cond.instantiable RX0 6, Cond.initialized RX0, Cond.fieldLink RX4 19 "LotFlows" "flows" "LLotFlows$Flows;", Cond.classLink RX4 23 RX2, Cond.instantiable RX2 4, Cond.initialized RX2, Cond.fieldLink RX4 26 "LotFlows" "list" "LLotFlows$RecallList;", Cond.classLink RX4 30 RX3, Cond.instantiable RX3 8, Cond.initialized RX3, Cond.fieldLink RX4 35 "LotFlows" "stock" "LLotFlows$Stock;", Cond.fieldLink RX4 39 "LotFlows" "trial" "LLotFlows$Stock;", Cond.fieldLink RX4 42 "LotFlows" "lastTold" "J", Cond.instanceMethod yX1_init, Cond.code yX1_init cX1_init 1 none, Cond.methodLink RX1 3 objectInit]
def wsX4_init_r2 : List Cond := [Cond.arrayClass .int, Cond.fieldLink RX1 9 "LotFlows$Nodes" "kind" "[I", Cond.arrayClass .long, Cond.fieldLink RX1 15 "LotFlows$Nodes" "amount" "[J", Cond.fieldLink RX1 19 "LotFlows$Nodes" "day" "[J", Cond.arrayClass .boolean, Cond.fieldLink RX1 22 "LotFlows$Nodes" "held" "[Z", Cond.fieldLink RX1 26 "LotFlows$Nodes" "spot" "[I", Cond.fieldLink RX1 29 "LotFlows$Nodes" "lotsByAge" "[I", Cond.instanceMethod yX0_init, Cond.code yX0_init cX0_init 1 none, Cond.methodLink RX0 3 objectInit, Cond.fieldLink RX0 9 "LotFlows$Flows" "from" "[I", Cond.fieldLink RX0 15 "LotFlows$Flows" "to" "[I", Cond.fieldLink RX0 18 "LotFlows$Flows" "amount" "[J", Cond.fieldLink RX0 22 "LotFlows$Flows" "day" "[J", Cond.fieldLink RX0 25 "LotFlows$Flows" "order" "[I", Cond.instanceMethod yX2_init, Cond.code yX2_init cX2_init 1 none, Cond.methodLink RX2 3 objectInit, Cond.fieldLink RX2 9 "LotFlows$RecallList" "spot" "[I", Cond.fieldLink RX2 15 "LotFlows$RecallList" "units" "[J", Cond.fieldLink RX2 19 "LotFlows$RecallList" "holders" "[I", Cond.methodLink RX4 32 yX3_init]
def wsX4_init_r3 : List Cond := [Cond.instanceMethod yX3_init, Cond.code yX3_init cX3_init 2 none, Cond.methodLink RX3 3 objectInit, Cond.fieldLink RX3 9 "LotFlows$Stock" "units" "[J", Cond.fieldLink RX3 15 "LotFlows$Stock" "came" "[J", Cond.fieldLink RX3 18 "LotFlows$Stock" "went" "[J", Cond.fieldLink RX3 21 "LotFlows$Stock" "drained" "[J", Cond.fieldLink RX3 24 "LotFlows$Stock" "reached" "[J", Cond.fieldLink RX3 27 "LotFlows$Stock" "portion" "[J", Cond.fieldLink RX3 30 "LotFlows$Stock" "rest" "[J", Cond.fieldLink RX3 33 "LotFlows$Stock" "nodes" "LLotFlows$Nodes;"]
def wsX4_init : List Cond := .code yX4_init cX4_init 1 none :: ((wsX4_init_r1 ++ (wsX4_init_r2 ++ wsX4_init_r3)) ++ wsX10 ++ wsX40 ++ wsX00 ++ wsX20 ++ wsX30)
def wsX4_isAmount : List Cond := .code yX4_isAmount cX4_isAmount 2 (some .boolean) :: ([.constantLong RX4 158 (1000000)])
def wsX4_isDay : List Cond := .code yX4_isDay cX4_isDay 2 (some .boolean) :: ([.constantLong RX4 195 (100000)])
def wsX4_lot_r1 : List Cond := [Cond.fieldLink RX4 10 "LotFlows" "nodes" "LLotFlows$Nodes;", Cond.fieldLink RX4 35 "LotFlows" "stock" "LLotFlows$Stock;", Cond.methodLink RX4 46 yX4_isAmount, Cond.static yX4_isAmount, Cond.initialized RX4, Cond.code yX4_isAmount cX4_isAmount 2 (some .boolean), Cond.constantLong RX4 158 (1000000), Cond.methodLink RX4 50 yX4_isDay, Cond.static yX4_isDay, Cond.code yX4_isDay cX4_isDay 2 (some .boolean), Cond.constantLong RX4 195 (100000), Cond.methodLink RX4 53 yX1_addLot, Cond.instanceMethod yX1_addLot, Cond.selects RX1 yX1_addLot yX1_addLot, Cond.initialized RX1, Cond.code yX1_addLot cX1_addLot 7 (some .int), Cond.fieldLink RX1 15 "LotFlows$Nodes" "amount" "[J", Cond.fieldLink RX1 19 "LotFlows$Nodes" "day" "[J", Cond.fieldLink RX1 44 "LotFlows$Nodes" "lotCount" "I", Cond.fieldLink RX1 29 "LotFlows$Nodes" "lotsByAge" "[I", Cond.methodLink RX1 40 yX1_add, Cond.instanceMethod yX1_add, Cond.selects RX1 yX1_add yX1_add, Cond.code yX1_add cX1_add 2 (some .int)]
def wsX4_lot_r2 : List Cond := [Cond.fieldLink RX1 32 "LotFlows$Nodes" "count" "I", Cond.fieldLink RX1 9 "LotFlows$Nodes" "kind" "[I", Cond.fieldLink RX1 26 "LotFlows$Nodes" "spot" "[I", Cond.methodLink RX4 57 yX3_admit, Cond.instanceMethod yX3_admit, Cond.selects RX3 yX3_admit yX3_admit, Cond.initialized RX3, Cond.code yX3_admit cX3_admit 2 none, Cond.fieldLink RX3 33 "LotFlows$Stock" "nodes" "LLotFlows$Nodes;", Cond.fieldLink RX3 9 "LotFlows$Stock" "units" "[J", Cond.fieldLink RX3 51 "LotFlows$Nodes" "amount" "[J", Cond.fieldLink RX3 15 "LotFlows$Stock" "came" "[J", Cond.fieldLink RX3 24 "LotFlows$Stock" "reached" "[J", Cond.methodLink RX3 47 yX1_isLot, Cond.instanceMethod yX1_isLot, Cond.selects RX1 yX1_isLot yX1_isLot, Cond.code yX1_isLot cX1_isLot 2 (some .boolean), Cond.methodLink RX1 36 yX1_has, Cond.instanceMethod yX1_has, Cond.selects RX1 yX1_has yX1_has, Cond.code yX1_has cX1_has 2 (some .boolean)]
def wsX4_lot : List Cond := .code yX4_lot cX4_lot 6 (some .int) :: ((wsX4_lot_r1 ++ wsX4_lot_r2) ++ wsX40 ++ wsX10 ++ wsX30)
def wsX4_thing : List Cond := .code yX4_thing cX4_thing 2 (some .int) :: ([.fieldLink RX4 10 "LotFlows" "nodes" "LLotFlows$Nodes;", .methodLink RX4 61 yX1_add, .instanceMethod yX1_add, .selects RX1 yX1_add yX1_add, .initialized RX1, .code yX1_add cX1_add 2 (some .int), .fieldLink RX1 32 "LotFlows$Nodes" "count" "I", .fieldLink RX1 9 "LotFlows$Nodes" "kind" "[I", .fieldLink RX1 26 "LotFlows$Nodes" "spot" "[I"] ++ wsX40 ++ wsX10)
def wsX4_takeTrial : List Cond := .code yX4_takeTrial cX4_takeTrial 2 none :: ([.fieldLink RX4 35 "LotFlows" "stock" "LLotFlows$Stock;", .fieldLink RX4 39 "LotFlows" "trial" "LLotFlows$Stock;"] ++ wsX40)
def wsX4_tell_r1 : List Cond := [Cond.fieldLink RX4 10 "LotFlows" "nodes" "LLotFlows$Nodes;", Cond.fieldLink RX4 197 "LotFlows$Nodes" "day" "[J", Cond.fieldLink RX4 19 "LotFlows" "flows" "LLotFlows$Flows;", Cond.fieldLink RX4 76 "LotFlows$Flows" "count" "I", Cond.fieldLink RX4 35 "LotFlows" "stock" "LLotFlows$Stock;", Cond.fieldLink RX4 39 "LotFlows" "trial" "LLotFlows$Stock;", Cond.methodLink RX4 82 yX1_isLot, Cond.instanceMethod yX1_isLot, Cond.selects RX1 yX1_isLot yX1_isLot, Cond.initialized RX1, Cond.code yX1_isLot cX1_isLot 2 (some .boolean), Cond.fieldLink RX1 9 "LotFlows$Nodes" "kind" "[I", Cond.methodLink RX1 36 yX1_has, Cond.instanceMethod yX1_has, Cond.selects RX1 yX1_has yX1_has, Cond.code yX1_has cX1_has 2 (some .boolean), Cond.fieldLink RX1 32 "LotFlows$Nodes" "count" "I", Cond.methodLink RX4 200 yX0_turnFor, Cond.instanceMethod yX0_turnFor, Cond.selects RX0 yX0_turnFor yX0_turnFor, Cond.initialized RX0, Cond.code yX0_turnFor cX0_turnFor 4 (some .int), Cond.fieldLink RX0 28 "LotFlows$Flows" "count" "I", Cond.fieldLink RX0 22 "LotFlows$Flows" "day" "[J"]
def wsX4_tell_r2 : List Cond := [Cond.fieldLink RX0 25 "LotFlows$Flows" "order" "[I", Cond.methodLink RX4 204 yX3_move, Cond.instanceMethod yX3_move, Cond.selects RX3 yX3_move yX3_move, Cond.initialized RX3, Cond.code yX3_move cX3_move 8 (some .boolean), Cond.fieldLink RX3 33 "LotFlows$Stock" "nodes" "LLotFlows$Nodes;", Cond.fieldLink RX3 37 "LotFlows$Nodes" "count" "I", Cond.fieldLink RX3 27 "LotFlows$Stock" "portion" "[J", Cond.fieldLink RX3 9 "LotFlows$Stock" "units" "[J", Cond.fieldLink RX3 24 "LotFlows$Stock" "reached" "[J", Cond.fieldLink RX3 18 "LotFlows$Stock" "went" "[J", Cond.fieldLink RX3 15 "LotFlows$Stock" "came" "[J", Cond.fieldLink RX3 21 "LotFlows$Stock" "drained" "[J", Cond.methodLink RX3 85 yX3_unitsIn, Cond.instanceMethod yX3_unitsIn, Cond.selects RX3 yX3_unitsIn yX3_unitsIn, Cond.code yX3_unitsIn cX3_unitsIn 2 (some .long), Cond.methodLink RX3 89 yX3_part, Cond.instanceMethod yX3_part, Cond.selects RX3 yX3_part yX3_part, Cond.code yX3_part cX3_part 11 none, Cond.fieldLink RX3 30 "LotFlows$Stock" "rest" "[J", Cond.methodLink RX3 43 yX3_unitsOf]
def wsX4_tell_r3 : List Cond := [Cond.instanceMethod yX3_unitsOf, Cond.selects RX3 yX3_unitsOf yX3_unitsOf, Cond.code yX3_unitsOf cX3_unitsOf 3 (some .long), Cond.methodLink RX3 96 yX3_greatestRest, Cond.instanceMethod yX3_greatestRest, Cond.selects RX3 yX3_greatestRest yX3_greatestRest, Cond.code yX3_greatestRest cX3_greatestRest 3 (some .int), Cond.methodLink RX3 93 yX1_isDrain, Cond.instanceMethod yX1_isDrain, Cond.selects RX1 yX1_isDrain yX1_isDrain, Cond.code yX1_isDrain cX1_isDrain 2 (some .boolean), Cond.methodLink RX4 208 yX0_insert, Cond.instanceMethod yX0_insert, Cond.selects RX0 yX0_insert yX0_insert, Cond.code yX0_insert cX0_insert 9 none, Cond.fieldLink RX0 9 "LotFlows$Flows" "from" "[I", Cond.fieldLink RX0 15 "LotFlows$Flows" "to" "[I", Cond.fieldLink RX0 18 "LotFlows$Flows" "amount" "[J", Cond.methodLink RX4 166 yX3_replay, Cond.instanceMethod yX3_replay, Cond.selects RX3 yX3_replay yX3_replay, Cond.code yX3_replay cX3_replay 4 (some .boolean), Cond.fieldLink RX3 57 "LotFlows$Flows" "count" "I", Cond.fieldLink RX3 60 "LotFlows$Flows" "order" "[I"]
def wsX4_tell_r4 : List Cond := [Cond.fieldLink RX3 64 "LotFlows$Flows" "amount" "[J", Cond.fieldLink RX3 65 "LotFlows$Flows" "from" "[I", Cond.fieldLink RX3 68 "LotFlows$Flows" "to" "[I", Cond.methodLink RX3 54 yX3_clear, Cond.instanceMethod yX3_clear, Cond.selects RX3 yX3_clear yX3_clear, Cond.code yX3_clear cX3_clear 2 none, Cond.methodLink RX3 75 yJ7_fill_d0a16, Cond.static yJ7_fill_d0a16, Cond.initialized RJ7, Cond.code yJ7_fill_d0a16 cJ7_fill_d0a16 5 none, Cond.methodLink RX3 81 yX3_admit, Cond.instanceMethod yX3_admit, Cond.selects RX3 yX3_admit yX3_admit, Cond.code yX3_admit cX3_admit 2 none, Cond.fieldLink RX3 51 "LotFlows$Nodes" "amount" "[J", Cond.methodLink RX3 47 yX1_isLot, Cond.methodLink RX3 71 yX3_move, Cond.methodLink RX4 212 yX0_removeNewest, Cond.instanceMethod yX0_removeNewest, Cond.selects RX0 yX0_removeNewest yX0_removeNewest, Cond.code yX0_removeNewest cX0_removeNewest 3 none, Cond.methodLink RX4 170 yX4_takeTrial, Cond.instanceMethod yX4_takeTrial]
def wsX4_tell_r5 : List Cond := [Cond.selects RX4 yX4_takeTrial yX4_takeTrial, Cond.initialized RX4, Cond.code yX4_takeTrial cX4_takeTrial 2 none]
def wsX4_tell : List Cond := .code yX4_tell cX4_tell 8 (some .boolean) :: ((wsX4_tell_r1 ++ (wsX4_tell_r2 ++ (wsX4_tell_r3 ++ (wsX4_tell_r4 ++ wsX4_tell_r5)))) ++ wsX40 ++ wsX10 ++ wsX00 ++ wsX30)
def wsX4_flow_r1 : List Cond := [Cond.classLink RX4 69 "java/lang/IndexOutOfBoundsException", Cond.initialized "java/lang/IndexOutOfBoundsException", Cond.classLink RX4 88 "java/lang/IllegalArgumentException", Cond.initialized "java/lang/IllegalArgumentException", Cond.classLink RX4 99 "java/lang/IllegalStateException", Cond.initialized "java/lang/IllegalStateException", Cond.fieldLink RX4 10 "LotFlows" "nodes" "LLotFlows$Nodes;", Cond.fieldLink RX4 19 "LotFlows" "flows" "LLotFlows$Flows;", Cond.fieldLink RX4 76 "LotFlows$Flows" "count" "I", Cond.fieldLink RX4 95 "LotFlows$Nodes" "held" "[Z", Cond.methodLink RX4 65 yX1_has, Cond.instanceMethod yX1_has, Cond.selects RX1 yX1_has yX1_has, Cond.initialized RX1, Cond.code yX1_has cX1_has 2 (some .boolean), Cond.fieldLink RX1 32 "LotFlows$Nodes" "count" "I", Cond.methodLink RX4 82 yX1_isLot, Cond.instanceMethod yX1_isLot, Cond.selects RX1 yX1_isLot yX1_isLot, Cond.code yX1_isLot cX1_isLot 2 (some .boolean), Cond.fieldLink RX1 9 "LotFlows$Nodes" "kind" "[I", Cond.methodLink RX1 36 yX1_has, Cond.methodLink RX4 85 yX1_isDrain, Cond.instanceMethod yX1_isDrain]
def wsX4_flow_r2 : List Cond := [Cond.selects RX1 yX1_isDrain yX1_isDrain, Cond.code yX1_isDrain cX1_isDrain 2 (some .boolean), Cond.methodLink RX4 46 yX4_isAmount, Cond.static yX4_isAmount, Cond.initialized RX4, Cond.code yX4_isAmount cX4_isAmount 2 (some .boolean), Cond.constantLong RX4 158 (1000000), Cond.methodLink RX4 50 yX4_isDay, Cond.static yX4_isDay, Cond.code yX4_isDay cX4_isDay 2 (some .boolean), Cond.constantLong RX4 195 (100000), Cond.methodLink RX4 104 yX4_tell, Cond.instanceMethod yX4_tell, Cond.selects RX4 yX4_tell yX4_tell, Cond.code yX4_tell cX4_tell 8 (some .boolean), Cond.fieldLink RX4 197 "LotFlows$Nodes" "day" "[J", Cond.fieldLink RX4 35 "LotFlows" "stock" "LLotFlows$Stock;", Cond.fieldLink RX4 39 "LotFlows" "trial" "LLotFlows$Stock;", Cond.methodLink RX4 200 yX0_turnFor, Cond.instanceMethod yX0_turnFor, Cond.selects RX0 yX0_turnFor yX0_turnFor, Cond.initialized RX0, Cond.code yX0_turnFor cX0_turnFor 4 (some .int), Cond.fieldLink RX0 28 "LotFlows$Flows" "count" "I"]
def wsX4_flow_r3 : List Cond := [Cond.fieldLink RX0 22 "LotFlows$Flows" "day" "[J", Cond.fieldLink RX0 25 "LotFlows$Flows" "order" "[I", Cond.methodLink RX4 204 yX3_move, Cond.instanceMethod yX3_move, Cond.selects RX3 yX3_move yX3_move, Cond.initialized RX3, Cond.code yX3_move cX3_move 8 (some .boolean), Cond.fieldLink RX3 33 "LotFlows$Stock" "nodes" "LLotFlows$Nodes;", Cond.fieldLink RX3 37 "LotFlows$Nodes" "count" "I", Cond.fieldLink RX3 27 "LotFlows$Stock" "portion" "[J", Cond.fieldLink RX3 9 "LotFlows$Stock" "units" "[J", Cond.fieldLink RX3 24 "LotFlows$Stock" "reached" "[J", Cond.fieldLink RX3 18 "LotFlows$Stock" "went" "[J", Cond.fieldLink RX3 15 "LotFlows$Stock" "came" "[J", Cond.fieldLink RX3 21 "LotFlows$Stock" "drained" "[J", Cond.methodLink RX3 85 yX3_unitsIn, Cond.instanceMethod yX3_unitsIn, Cond.selects RX3 yX3_unitsIn yX3_unitsIn, Cond.code yX3_unitsIn cX3_unitsIn 2 (some .long), Cond.methodLink RX3 89 yX3_part, Cond.instanceMethod yX3_part, Cond.selects RX3 yX3_part yX3_part, Cond.code yX3_part cX3_part 11 none, Cond.fieldLink RX3 30 "LotFlows$Stock" "rest" "[J"]
def wsX4_flow_r4 : List Cond := [Cond.methodLink RX3 43 yX3_unitsOf, Cond.instanceMethod yX3_unitsOf, Cond.selects RX3 yX3_unitsOf yX3_unitsOf, Cond.code yX3_unitsOf cX3_unitsOf 3 (some .long), Cond.methodLink RX3 96 yX3_greatestRest, Cond.instanceMethod yX3_greatestRest, Cond.selects RX3 yX3_greatestRest yX3_greatestRest, Cond.code yX3_greatestRest cX3_greatestRest 3 (some .int), Cond.methodLink RX3 93 yX1_isDrain, Cond.methodLink RX4 208 yX0_insert, Cond.instanceMethod yX0_insert, Cond.selects RX0 yX0_insert yX0_insert, Cond.code yX0_insert cX0_insert 9 none, Cond.fieldLink RX0 9 "LotFlows$Flows" "from" "[I", Cond.fieldLink RX0 15 "LotFlows$Flows" "to" "[I", Cond.fieldLink RX0 18 "LotFlows$Flows" "amount" "[J", Cond.methodLink RX4 166 yX3_replay, Cond.instanceMethod yX3_replay, Cond.selects RX3 yX3_replay yX3_replay, Cond.code yX3_replay cX3_replay 4 (some .boolean), Cond.fieldLink RX3 57 "LotFlows$Flows" "count" "I", Cond.fieldLink RX3 60 "LotFlows$Flows" "order" "[I", Cond.fieldLink RX3 64 "LotFlows$Flows" "amount" "[J", Cond.fieldLink RX3 65 "LotFlows$Flows" "from" "[I"]
def wsX4_flow_r5 : List Cond := [Cond.fieldLink RX3 68 "LotFlows$Flows" "to" "[I", Cond.methodLink RX3 54 yX3_clear, Cond.instanceMethod yX3_clear, Cond.selects RX3 yX3_clear yX3_clear, Cond.code yX3_clear cX3_clear 2 none, Cond.methodLink RX3 75 yJ7_fill_d0a16, Cond.static yJ7_fill_d0a16, Cond.initialized RJ7, Cond.code yJ7_fill_d0a16 cJ7_fill_d0a16 5 none, Cond.methodLink RX3 81 yX3_admit, Cond.instanceMethod yX3_admit, Cond.selects RX3 yX3_admit yX3_admit, Cond.code yX3_admit cX3_admit 2 none, Cond.fieldLink RX3 51 "LotFlows$Nodes" "amount" "[J", Cond.methodLink RX3 47 yX1_isLot, Cond.methodLink RX3 71 yX3_move, Cond.methodLink RX4 212 yX0_removeNewest, Cond.instanceMethod yX0_removeNewest, Cond.selects RX0 yX0_removeNewest yX0_removeNewest, Cond.code yX0_removeNewest cX0_removeNewest 3 none, Cond.methodLink RX4 170 yX4_takeTrial, Cond.instanceMethod yX4_takeTrial, Cond.selects RX4 yX4_takeTrial yX4_takeTrial, Cond.code yX4_takeTrial cX4_takeTrial 2 none]
def wsX4_left : List Cond := .code yX4_left cX4_left 2 (some .long) :: ([.fieldLink RX4 10 "LotFlows" "nodes" "LLotFlows$Nodes;", .fieldLink RX4 35 "LotFlows" "stock" "LLotFlows$Stock;", .constantLong RX4 114 (-1), .methodLink RX4 65 yX1_has, .instanceMethod yX1_has, .selects RX1 yX1_has yX1_has, .initialized RX1, .code yX1_has cX1_has 2 (some .boolean), .fieldLink RX1 32 "LotFlows$Nodes" "count" "I", .methodLink RX4 110 yX3_unitsIn, .instanceMethod yX3_unitsIn, .selects RX3 yX3_unitsIn yX3_unitsIn, .initialized RX3, .code yX3_unitsIn cX3_unitsIn 2 (some .long), .fieldLink RX3 15 "LotFlows$Stock" "came" "[J", .fieldLink RX3 18 "LotFlows$Stock" "went" "[J"] ++ wsX40 ++ wsX10 ++ wsX30)
def wsX4_greatestDivisor : List Cond := .code yX4_greatestDivisor cX4_greatestDivisor 11 (some .long) :: ([])
def wsX4_share_r1 : List Cond := [Cond.fieldLink RX4 10 "LotFlows" "nodes" "LLotFlows$Nodes;", Cond.constantLong RX4 114 (-1), Cond.fieldLink RX4 35 "LotFlows" "stock" "LLotFlows$Stock;", Cond.methodLink RX4 65 yX1_has, Cond.instanceMethod yX1_has, Cond.selects RX1 yX1_has yX1_has, Cond.initialized RX1, Cond.code yX1_has cX1_has 2 (some .boolean), Cond.fieldLink RX1 32 "LotFlows$Nodes" "count" "I", Cond.methodLink RX4 82 yX1_isLot, Cond.instanceMethod yX1_isLot, Cond.selects RX1 yX1_isLot yX1_isLot, Cond.code yX1_isLot cX1_isLot 2 (some .boolean), Cond.fieldLink RX1 9 "LotFlows$Nodes" "kind" "[I", Cond.methodLink RX1 36 yX1_has, Cond.methodLink RX4 116 yX3_unitsOf, Cond.instanceMethod yX3_unitsOf, Cond.selects RX3 yX3_unitsOf yX3_unitsOf, Cond.initialized RX3, Cond.code yX3_unitsOf cX3_unitsOf 3 (some .long), Cond.fieldLink RX3 9 "LotFlows$Stock" "units" "[J", Cond.methodLink RX4 110 yX3_unitsIn, Cond.instanceMethod yX3_unitsIn, Cond.selects RX3 yX3_unitsIn yX3_unitsIn]
def wsX4_share_r2 : List Cond := [Cond.code yX3_unitsIn cX3_unitsIn 2 (some .long), Cond.fieldLink RX3 15 "LotFlows$Stock" "came" "[J", Cond.fieldLink RX3 18 "LotFlows$Stock" "went" "[J", Cond.methodLink RX4 120 yX4_greatestDivisor, Cond.static yX4_greatestDivisor, Cond.initialized RX4, Cond.code yX4_greatestDivisor cX4_greatestDivisor 11 (some .long)]
def wsX4_share : List Cond := .code yX4_share cX4_share 10 (some .long) :: ((wsX4_share_r1 ++ wsX4_share_r2) ++ wsX40 ++ wsX10 ++ wsX30)
def wsX4_back : List Cond := .code yX4_back cX4_back 5 (some .int) :: ([.fieldLink RX4 10 "LotFlows" "nodes" "LLotFlows$Nodes;", .fieldLink RX4 124 "LotFlows$Nodes" "count" "I", .fieldLink RX4 35 "LotFlows" "stock" "LLotFlows$Stock;", .methodLink RX4 65 yX1_has, .instanceMethod yX1_has, .selects RX1 yX1_has yX1_has, .initialized RX1, .code yX1_has cX1_has 2 (some .boolean), .fieldLink RX1 32 "LotFlows$Nodes" "count" "I", .methodLink RX4 125 yX3_hasReached, .instanceMethod yX3_hasReached, .selects RX3 yX3_hasReached yX3_hasReached, .initialized RX3, .code yX3_hasReached cX3_hasReached 3 (some .boolean), .fieldLink RX3 24 "LotFlows$Stock" "reached" "[J"] ++ wsX40 ++ wsX10 ++ wsX30)
def wsX4_forward : List Cond := .code yX4_forward cX4_forward 5 (some .int) :: ([.fieldLink RX4 10 "LotFlows" "nodes" "LLotFlows$Nodes;", .fieldLink RX4 124 "LotFlows$Nodes" "count" "I", .fieldLink RX4 35 "LotFlows" "stock" "LLotFlows$Stock;", .methodLink RX4 82 yX1_isLot, .instanceMethod yX1_isLot, .selects RX1 yX1_isLot yX1_isLot, .initialized RX1, .code yX1_isLot cX1_isLot 2 (some .boolean), .fieldLink RX1 9 "LotFlows$Nodes" "kind" "[I", .methodLink RX1 36 yX1_has, .instanceMethod yX1_has, .selects RX1 yX1_has yX1_has, .code yX1_has cX1_has 2 (some .boolean), .fieldLink RX1 32 "LotFlows$Nodes" "count" "I", .methodLink RX4 129 yX1_canTake, .instanceMethod yX1_canTake, .selects RX1 yX1_canTake yX1_canTake, .code yX1_canTake cX1_canTake 2 (some .boolean), .methodLink RX4 125 yX3_hasReached, .instanceMethod yX3_hasReached, .selects RX3 yX3_hasReached yX3_hasReached, .initialized RX3, .code yX3_hasReached cX3_hasReached 3 (some .boolean), .fieldLink RX3 24 "LotFlows$Stock" "reached" "[J"] ++ wsX40 ++ wsX10 ++ wsX30)
def wsX4_place : List Cond := .code yX4_place cX4_place 4 (some .boolean) :: ([.fieldLink RX4 10 "LotFlows" "nodes" "LLotFlows$Nodes;", .fieldLink RX4 132 "LotFlows$Nodes" "spot" "[I", .methodLink RX4 129 yX1_canTake, .instanceMethod yX1_canTake, .selects RX1 yX1_canTake yX1_canTake, .initialized RX1, .code yX1_canTake cX1_canTake 2 (some .boolean), .fieldLink RX1 9 "LotFlows$Nodes" "kind" "[I", .methodLink RX1 36 yX1_has, .instanceMethod yX1_has, .selects RX1 yX1_has yX1_has, .code yX1_has cX1_has 2 (some .boolean), .fieldLink RX1 32 "LotFlows$Nodes" "count" "I"] ++ wsX40 ++ wsX10)
def wsX4_recall_r1 : List Cond := [Cond.fieldLink RX4 10 "LotFlows" "nodes" "LLotFlows$Nodes;", Cond.fieldLink RX4 26 "LotFlows" "list" "LLotFlows$RecallList;", Cond.fieldLink RX4 136 "LotFlows$RecallList" "count" "I", Cond.fieldLink RX4 124 "LotFlows$Nodes" "count" "I", Cond.fieldLink RX4 132 "LotFlows$Nodes" "spot" "[I", Cond.fieldLink RX4 35 "LotFlows" "stock" "LLotFlows$Stock;", Cond.methodLink RX4 82 yX1_isLot, Cond.instanceMethod yX1_isLot, Cond.selects RX1 yX1_isLot yX1_isLot, Cond.initialized RX1, Cond.code yX1_isLot cX1_isLot 2 (some .boolean), Cond.fieldLink RX1 9 "LotFlows$Nodes" "kind" "[I", Cond.methodLink RX1 36 yX1_has, Cond.instanceMethod yX1_has, Cond.selects RX1 yX1_has yX1_has, Cond.code yX1_has cX1_has 2 (some .boolean), Cond.fieldLink RX1 32 "LotFlows$Nodes" "count" "I", Cond.methodLink RX4 129 yX1_canTake, Cond.instanceMethod yX1_canTake, Cond.selects RX1 yX1_canTake yX1_canTake, Cond.code yX1_canTake cX1_canTake 2 (some .boolean), Cond.methodLink RX4 125 yX3_hasReached, Cond.instanceMethod yX3_hasReached, Cond.selects RX3 yX3_hasReached yX3_hasReached]
def wsX4_recall_r2 : List Cond := [Cond.initialized RX3, Cond.code yX3_hasReached cX3_hasReached 3 (some .boolean), Cond.fieldLink RX3 24 "LotFlows$Stock" "reached" "[J", Cond.methodLink RX4 116 yX3_unitsOf, Cond.instanceMethod yX3_unitsOf, Cond.selects RX3 yX3_unitsOf yX3_unitsOf, Cond.code yX3_unitsOf cX3_unitsOf 3 (some .long), Cond.fieldLink RX3 9 "LotFlows$Stock" "units" "[J", Cond.methodLink RX4 137 yX2_enter, Cond.instanceMethod yX2_enter, Cond.selects RX2 yX2_enter yX2_enter, Cond.initialized RX2, Cond.code yX2_enter cX2_enter 5 none, Cond.fieldLink RX2 22 "LotFlows$RecallList" "count" "I", Cond.fieldLink RX2 9 "LotFlows$RecallList" "spot" "[I", Cond.fieldLink RX2 15 "LotFlows$RecallList" "units" "[J", Cond.fieldLink RX2 19 "LotFlows$RecallList" "holders" "[I", Cond.methodLink RX2 26 yX2_insert, Cond.instanceMethod yX2_insert, Cond.selects RX2 yX2_insert yX2_insert, Cond.code yX2_insert cX2_insert 6 none]
def wsX4_recall : List Cond := .code yX4_recall cX4_recall 3 (some .int) :: ((wsX4_recall_r1 ++ wsX4_recall_r2) ++ wsX40 ++ wsX20 ++ wsX10 ++ wsX30)
def wsX4_recalled : List Cond := .code yX4_recalled cX4_recalled 3 (some .int) :: ([.fieldLink RX4 26 "LotFlows" "list" "LLotFlows$RecallList;", .fieldLink RX4 136 "LotFlows$RecallList" "count" "I", .fieldLink RX4 141 "LotFlows$RecallList" "spot" "[I", .fieldLink RX4 142 "LotFlows$RecallList" "units" "[J", .constantLong RX4 148 (2147483647), .methodLink RX4 150 Lib.MathLoose.min_long.x, .static Lib.MathLoose.min_long.x, .initialized "java/lang/Math", .code Lib.MathLoose.min_long.x Lib.MathLoose.min_long.code 4 (some .long), .fieldLink RX4 155 "LotFlows$RecallList" "holders" "[I"] ++ wsX40 ++ wsX20)
def wsX4_hold : List Cond := .code yX4_hold cX4_hold 3 (some .boolean) :: ([.fieldLink RX4 10 "LotFlows" "nodes" "LLotFlows$Nodes;", .fieldLink RX4 95 "LotFlows$Nodes" "held" "[Z", .methodLink RX4 65 yX1_has, .instanceMethod yX1_has, .selects RX1 yX1_has yX1_has, .initialized RX1, .code yX1_has cX1_has 2 (some .boolean), .fieldLink RX1 32 "LotFlows$Nodes" "count" "I"] ++ wsX40 ++ wsX10)
def wsX4_correct_r1 : List Cond := [Cond.fieldLink RX4 19 "LotFlows" "flows" "LLotFlows$Flows;", Cond.fieldLink RX4 76 "LotFlows$Flows" "count" "I", Cond.constantLong RX4 158 (1000000), Cond.fieldLink RX4 42 "LotFlows" "lastTold" "J", Cond.fieldLink RX4 160 "LotFlows$Flows" "amount" "[J", Cond.fieldLink RX4 10 "LotFlows" "nodes" "LLotFlows$Nodes;", Cond.fieldLink RX4 95 "LotFlows$Nodes" "held" "[Z", Cond.fieldLink RX4 163 "LotFlows$Flows" "from" "[I", Cond.fieldLink RX4 39 "LotFlows" "trial" "LLotFlows$Stock;", Cond.fieldLink RX4 35 "LotFlows" "stock" "LLotFlows$Stock;", Cond.methodLink RX4 50 yX4_isDay, Cond.static yX4_isDay, Cond.initialized RX4, Cond.code yX4_isDay cX4_isDay 2 (some .boolean), Cond.constantLong RX4 195 (100000), Cond.methodLink RX4 166 yX3_replay, Cond.instanceMethod yX3_replay, Cond.selects RX3 yX3_replay yX3_replay, Cond.initialized RX3, Cond.code yX3_replay cX3_replay 4 (some .boolean), Cond.fieldLink RX3 57 "LotFlows$Flows" "count" "I", Cond.fieldLink RX3 60 "LotFlows$Flows" "order" "[I", Cond.fieldLink RX3 64 "LotFlows$Flows" "amount" "[J", Cond.fieldLink RX3 65 "LotFlows$Flows" "from" "[I"]
def wsX4_correct_r2 : List Cond := [Cond.fieldLink RX3 68 "LotFlows$Flows" "to" "[I", Cond.methodLink RX3 54 yX3_clear, Cond.instanceMethod yX3_clear, Cond.selects RX3 yX3_clear yX3_clear, Cond.code yX3_clear cX3_clear 2 none, Cond.fieldLink RX3 9 "LotFlows$Stock" "units" "[J", Cond.fieldLink RX3 15 "LotFlows$Stock" "came" "[J", Cond.fieldLink RX3 18 "LotFlows$Stock" "went" "[J", Cond.fieldLink RX3 21 "LotFlows$Stock" "drained" "[J", Cond.fieldLink RX3 24 "LotFlows$Stock" "reached" "[J", Cond.fieldLink RX3 33 "LotFlows$Stock" "nodes" "LLotFlows$Nodes;", Cond.fieldLink RX3 37 "LotFlows$Nodes" "count" "I", Cond.methodLink RX3 75 yJ7_fill_d0a16, Cond.static yJ7_fill_d0a16, Cond.initialized RJ7, Cond.code yJ7_fill_d0a16 cJ7_fill_d0a16 5 none, Cond.methodLink RX3 81 yX3_admit, Cond.instanceMethod yX3_admit, Cond.selects RX3 yX3_admit yX3_admit, Cond.code yX3_admit cX3_admit 2 none, Cond.fieldLink RX3 51 "LotFlows$Nodes" "amount" "[J", Cond.methodLink RX3 47 yX1_isLot, Cond.instanceMethod yX1_isLot, Cond.selects RX1 yX1_isLot yX1_isLot]
def wsX4_correct_r3 : List Cond := [Cond.initialized RX1, Cond.code yX1_isLot cX1_isLot 2 (some .boolean), Cond.fieldLink RX1 9 "LotFlows$Nodes" "kind" "[I", Cond.methodLink RX1 36 yX1_has, Cond.instanceMethod yX1_has, Cond.selects RX1 yX1_has yX1_has, Cond.code yX1_has cX1_has 2 (some .boolean), Cond.fieldLink RX1 32 "LotFlows$Nodes" "count" "I", Cond.methodLink RX3 71 yX3_move, Cond.instanceMethod yX3_move, Cond.selects RX3 yX3_move yX3_move, Cond.code yX3_move cX3_move 8 (some .boolean), Cond.fieldLink RX3 27 "LotFlows$Stock" "portion" "[J", Cond.methodLink RX3 85 yX3_unitsIn, Cond.instanceMethod yX3_unitsIn, Cond.selects RX3 yX3_unitsIn yX3_unitsIn, Cond.code yX3_unitsIn cX3_unitsIn 2 (some .long), Cond.methodLink RX3 89 yX3_part, Cond.instanceMethod yX3_part, Cond.selects RX3 yX3_part yX3_part, Cond.code yX3_part cX3_part 11 none, Cond.fieldLink RX3 30 "LotFlows$Stock" "rest" "[J", Cond.methodLink RX3 43 yX3_unitsOf, Cond.instanceMethod yX3_unitsOf]
def wsX4_correct_r4 : List Cond := [Cond.selects RX3 yX3_unitsOf yX3_unitsOf, Cond.code yX3_unitsOf cX3_unitsOf 3 (some .long), Cond.methodLink RX3 96 yX3_greatestRest, Cond.instanceMethod yX3_greatestRest, Cond.selects RX3 yX3_greatestRest yX3_greatestRest, Cond.code yX3_greatestRest cX3_greatestRest 3 (some .int), Cond.methodLink RX3 93 yX1_isDrain, Cond.instanceMethod yX1_isDrain, Cond.selects RX1 yX1_isDrain yX1_isDrain, Cond.code yX1_isDrain cX1_isDrain 2 (some .boolean), Cond.methodLink RX4 170 yX4_takeTrial, Cond.instanceMethod yX4_takeTrial, Cond.selects RX4 yX4_takeTrial yX4_takeTrial, Cond.code yX4_takeTrial cX4_takeTrial 2 none, Cond.methodLink RX4 173 yX3_countOtherNodes, Cond.instanceMethod yX3_countOtherNodes, Cond.selects RX3 yX3_countOtherNodes yX3_countOtherNodes, Cond.code yX3_countOtherNodes cX3_countOtherNodes 4 (some .int), Cond.methodLink RX3 100 yX3_differs, Cond.instanceMethod yX3_differs, Cond.selects RX3 yX3_differs yX3_differs, Cond.code yX3_differs cX3_differs 4 (some .boolean)]
def wsX4_correct : List Cond := .code yX4_correct cX4_correct 8 (some .int) :: ((wsX4_correct_r1 ++ (wsX4_correct_r2 ++ (wsX4_correct_r3 ++ wsX4_correct_r4))) ++ wsX40 ++ wsX00 ++ wsX10 ++ wsX30)
def wsX4_canGive : List Cond := .code yX4_canGive cX4_canGive 5 (some .long) :: ([.fieldLink RX4 10 "LotFlows" "nodes" "LLotFlows$Nodes;", .fieldLink RX4 95 "LotFlows$Nodes" "held" "[Z", .fieldLink RX4 197 "LotFlows$Nodes" "day" "[J", .fieldLink RX4 35 "LotFlows" "stock" "LLotFlows$Stock;", .methodLink RX4 110 yX3_unitsIn, .instanceMethod yX3_unitsIn, .selects RX3 yX3_unitsIn yX3_unitsIn, .initialized RX3, .code yX3_unitsIn cX3_unitsIn 2 (some .long), .fieldLink RX3 15 "LotFlows$Stock" "came" "[J", .fieldLink RX3 18 "LotFlows$Stock" "went" "[J"] ++ wsX40 ++ wsX10 ++ wsX30)
def wsX4_countTopFlows : List Cond := .code yX4_countTopFlows cX4_countTopFlows 12 (some .int) :: ([.fieldLink RX4 10 "LotFlows" "nodes" "LLotFlows$Nodes;", .fieldLink RX4 215 "LotFlows$Nodes" "lotCount" "I", .fieldLink RX4 218 "LotFlows$Nodes" "lotsByAge" "[I", .methodLink RX4 150 Lib.MathLoose.min_long.x, .static Lib.MathLoose.min_long.x, .initialized "java/lang/Math", .code Lib.MathLoose.min_long.x Lib.MathLoose.min_long.code 4 (some .long), .methodLink RX4 221 yX4_canGive, .instanceMethod yX4_canGive, .selects RX4 yX4_canGive yX4_canGive, .initialized RX4, .code yX4_canGive cX4_canGive 5 (some .long), .fieldLink RX4 95 "LotFlows$Nodes" "held" "[Z", .fieldLink RX4 197 "LotFlows$Nodes" "day" "[J", .fieldLink RX4 35 "LotFlows" "stock" "LLotFlows$Stock;", .methodLink RX4 110 yX3_unitsIn, .instanceMethod yX3_unitsIn, .selects RX3 yX3_unitsIn yX3_unitsIn, .initialized RX3, .code yX3_unitsIn cX3_unitsIn 2 (some .long), .fieldLink RX3 15 "LotFlows$Stock" "came" "[J", .fieldLink RX3 18 "LotFlows$Stock" "went" "[J"] ++ wsX40 ++ wsX10 ++ wsX30)
def wsX4_tellTopFlows_r1 : List Cond := [Cond.fieldLink RX4 10 "LotFlows" "nodes" "LLotFlows$Nodes;", Cond.fieldLink RX4 215 "LotFlows$Nodes" "lotCount" "I", Cond.fieldLink RX4 218 "LotFlows$Nodes" "lotsByAge" "[I", Cond.methodLink RX4 150 Lib.MathLoose.min_long.x, Cond.static Lib.MathLoose.min_long.x, Cond.initialized "java/lang/Math", Cond.code Lib.MathLoose.min_long.x Lib.MathLoose.min_long.code 4 (some .long), Cond.methodLink RX4 221 yX4_canGive, Cond.instanceMethod yX4_canGive, Cond.selects RX4 yX4_canGive yX4_canGive, Cond.initialized RX4, Cond.code yX4_canGive cX4_canGive 5 (some .long), Cond.fieldLink RX4 95 "LotFlows$Nodes" "held" "[Z", Cond.fieldLink RX4 197 "LotFlows$Nodes" "day" "[J", Cond.fieldLink RX4 35 "LotFlows" "stock" "LLotFlows$Stock;", Cond.methodLink RX4 110 yX3_unitsIn, Cond.instanceMethod yX3_unitsIn, Cond.selects RX3 yX3_unitsIn yX3_unitsIn, Cond.initialized RX3, Cond.code yX3_unitsIn cX3_unitsIn 2 (some .long), Cond.fieldLink RX3 15 "LotFlows$Stock" "came" "[J", Cond.fieldLink RX3 18 "LotFlows$Stock" "went" "[J", Cond.methodLink RX4 104 yX4_tell, Cond.instanceMethod yX4_tell]
def wsX4_tellTopFlows_r2 : List Cond := [Cond.selects RX4 yX4_tell yX4_tell, Cond.code yX4_tell cX4_tell 8 (some .boolean), Cond.fieldLink RX4 19 "LotFlows" "flows" "LLotFlows$Flows;", Cond.fieldLink RX4 76 "LotFlows$Flows" "count" "I", Cond.fieldLink RX4 39 "LotFlows" "trial" "LLotFlows$Stock;", Cond.methodLink RX4 82 yX1_isLot, Cond.instanceMethod yX1_isLot, Cond.selects RX1 yX1_isLot yX1_isLot, Cond.initialized RX1, Cond.code yX1_isLot cX1_isLot 2 (some .boolean), Cond.fieldLink RX1 9 "LotFlows$Nodes" "kind" "[I", Cond.methodLink RX1 36 yX1_has, Cond.instanceMethod yX1_has, Cond.selects RX1 yX1_has yX1_has, Cond.code yX1_has cX1_has 2 (some .boolean), Cond.fieldLink RX1 32 "LotFlows$Nodes" "count" "I", Cond.methodLink RX4 200 yX0_turnFor, Cond.instanceMethod yX0_turnFor, Cond.selects RX0 yX0_turnFor yX0_turnFor, Cond.initialized RX0, Cond.code yX0_turnFor cX0_turnFor 4 (some .int), Cond.fieldLink RX0 28 "LotFlows$Flows" "count" "I", Cond.fieldLink RX0 22 "LotFlows$Flows" "day" "[J", Cond.fieldLink RX0 25 "LotFlows$Flows" "order" "[I"]
def wsX4_tellTopFlows_r3 : List Cond := [Cond.methodLink RX4 204 yX3_move, Cond.instanceMethod yX3_move, Cond.selects RX3 yX3_move yX3_move, Cond.code yX3_move cX3_move 8 (some .boolean), Cond.fieldLink RX3 33 "LotFlows$Stock" "nodes" "LLotFlows$Nodes;", Cond.fieldLink RX3 37 "LotFlows$Nodes" "count" "I", Cond.fieldLink RX3 27 "LotFlows$Stock" "portion" "[J", Cond.fieldLink RX3 9 "LotFlows$Stock" "units" "[J", Cond.fieldLink RX3 24 "LotFlows$Stock" "reached" "[J", Cond.fieldLink RX3 21 "LotFlows$Stock" "drained" "[J", Cond.methodLink RX3 85 yX3_unitsIn, Cond.methodLink RX3 89 yX3_part, Cond.instanceMethod yX3_part, Cond.selects RX3 yX3_part yX3_part, Cond.code yX3_part cX3_part 11 none, Cond.fieldLink RX3 30 "LotFlows$Stock" "rest" "[J", Cond.methodLink RX3 43 yX3_unitsOf, Cond.instanceMethod yX3_unitsOf, Cond.selects RX3 yX3_unitsOf yX3_unitsOf, Cond.code yX3_unitsOf cX3_unitsOf 3 (some .long), Cond.methodLink RX3 96 yX3_greatestRest, Cond.instanceMethod yX3_greatestRest, Cond.selects RX3 yX3_greatestRest yX3_greatestRest, Cond.code yX3_greatestRest cX3_greatestRest 3 (some .int)]
def wsX4_tellTopFlows_r4 : List Cond := [Cond.methodLink RX3 93 yX1_isDrain, Cond.instanceMethod yX1_isDrain, Cond.selects RX1 yX1_isDrain yX1_isDrain, Cond.code yX1_isDrain cX1_isDrain 2 (some .boolean), Cond.methodLink RX4 208 yX0_insert, Cond.instanceMethod yX0_insert, Cond.selects RX0 yX0_insert yX0_insert, Cond.code yX0_insert cX0_insert 9 none, Cond.fieldLink RX0 9 "LotFlows$Flows" "from" "[I", Cond.fieldLink RX0 15 "LotFlows$Flows" "to" "[I", Cond.fieldLink RX0 18 "LotFlows$Flows" "amount" "[J", Cond.methodLink RX4 166 yX3_replay, Cond.instanceMethod yX3_replay, Cond.selects RX3 yX3_replay yX3_replay, Cond.code yX3_replay cX3_replay 4 (some .boolean), Cond.fieldLink RX3 57 "LotFlows$Flows" "count" "I", Cond.fieldLink RX3 60 "LotFlows$Flows" "order" "[I", Cond.fieldLink RX3 64 "LotFlows$Flows" "amount" "[J", Cond.fieldLink RX3 65 "LotFlows$Flows" "from" "[I", Cond.fieldLink RX3 68 "LotFlows$Flows" "to" "[I", Cond.methodLink RX3 54 yX3_clear, Cond.instanceMethod yX3_clear, Cond.selects RX3 yX3_clear yX3_clear, Cond.code yX3_clear cX3_clear 2 none]
def wsX4_tellTopFlows_r5 : List Cond := [Cond.methodLink RX3 75 yJ7_fill_d0a16, Cond.static yJ7_fill_d0a16, Cond.initialized RJ7, Cond.code yJ7_fill_d0a16 cJ7_fill_d0a16 5 none, Cond.methodLink RX3 81 yX3_admit, Cond.instanceMethod yX3_admit, Cond.selects RX3 yX3_admit yX3_admit, Cond.code yX3_admit cX3_admit 2 none, Cond.fieldLink RX3 51 "LotFlows$Nodes" "amount" "[J", Cond.methodLink RX3 47 yX1_isLot, Cond.methodLink RX3 71 yX3_move, Cond.methodLink RX4 212 yX0_removeNewest, Cond.instanceMethod yX0_removeNewest, Cond.selects RX0 yX0_removeNewest yX0_removeNewest, Cond.code yX0_removeNewest cX0_removeNewest 3 none, Cond.methodLink RX4 170 yX4_takeTrial, Cond.instanceMethod yX4_takeTrial, Cond.selects RX4 yX4_takeTrial yX4_takeTrial, Cond.code yX4_takeTrial cX4_takeTrial 2 none]
def wsX4_tellTopFlows : List Cond := .code yX4_tellTopFlows cX4_tellTopFlows 13 none :: ((wsX4_tellTopFlows_r1 ++ (wsX4_tellTopFlows_r2 ++ (wsX4_tellTopFlows_r3 ++ (wsX4_tellTopFlows_r4 ++ wsX4_tellTopFlows_r5)))) ++ wsX40 ++ wsX10 ++ wsX30 ++ wsX00)
def wsX4_top_r1 : List Cond := [Cond.fieldLink RX4 10 "LotFlows" "nodes" "LLotFlows$Nodes;", Cond.fieldLink RX4 19 "LotFlows" "flows" "LLotFlows$Flows;", Cond.fieldLink RX4 76 "LotFlows$Flows" "count" "I", Cond.methodLink RX4 129 yX1_canTake, Cond.instanceMethod yX1_canTake, Cond.selects RX1 yX1_canTake yX1_canTake, Cond.initialized RX1, Cond.code yX1_canTake cX1_canTake 2 (some .boolean), Cond.fieldLink RX1 9 "LotFlows$Nodes" "kind" "[I", Cond.methodLink RX1 36 yX1_has, Cond.instanceMethod yX1_has, Cond.selects RX1 yX1_has yX1_has, Cond.code yX1_has cX1_has 2 (some .boolean), Cond.fieldLink RX1 32 "LotFlows$Nodes" "count" "I", Cond.methodLink RX4 85 yX1_isDrain, Cond.instanceMethod yX1_isDrain, Cond.selects RX1 yX1_isDrain yX1_isDrain, Cond.code yX1_isDrain cX1_isDrain 2 (some .boolean), Cond.methodLink RX4 46 yX4_isAmount, Cond.static yX4_isAmount, Cond.initialized RX4, Cond.code yX4_isAmount cX4_isAmount 2 (some .boolean), Cond.constantLong RX4 158 (1000000), Cond.methodLink RX4 82 yX1_isLot]
def wsX4_top_r2 : List Cond := [Cond.instanceMethod yX1_isLot, Cond.selects RX1 yX1_isLot yX1_isLot, Cond.code yX1_isLot cX1_isLot 2 (some .boolean), Cond.methodLink RX4 177 yX0_greatestDay, Cond.instanceMethod yX0_greatestDay, Cond.selects RX0 yX0_greatestDay yX0_greatestDay, Cond.initialized RX0, Cond.code yX0_greatestDay cX0_greatestDay 1 (some .long), Cond.fieldLink RX0 28 "LotFlows$Flows" "count" "I", Cond.fieldLink RX0 22 "LotFlows$Flows" "day" "[J", Cond.fieldLink RX0 25 "LotFlows$Flows" "order" "[I", Cond.methodLink RX4 181 yX4_countTopFlows, Cond.instanceMethod yX4_countTopFlows, Cond.selects RX4 yX4_countTopFlows yX4_countTopFlows, Cond.code yX4_countTopFlows cX4_countTopFlows 12 (some .int), Cond.fieldLink RX4 215 "LotFlows$Nodes" "lotCount" "I", Cond.fieldLink RX4 218 "LotFlows$Nodes" "lotsByAge" "[I", Cond.methodLink RX4 150 Lib.MathLoose.min_long.x, Cond.static Lib.MathLoose.min_long.x, Cond.initialized "java/lang/Math", Cond.code Lib.MathLoose.min_long.x Lib.MathLoose.min_long.code 4 (some .long), Cond.methodLink RX4 221 yX4_canGive, Cond.instanceMethod yX4_canGive, Cond.selects RX4 yX4_canGive yX4_canGive]
def wsX4_top_r3 : List Cond := [Cond.code yX4_canGive cX4_canGive 5 (some .long), Cond.fieldLink RX4 95 "LotFlows$Nodes" "held" "[Z", Cond.fieldLink RX4 197 "LotFlows$Nodes" "day" "[J", Cond.fieldLink RX4 35 "LotFlows" "stock" "LLotFlows$Stock;", Cond.methodLink RX4 110 yX3_unitsIn, Cond.instanceMethod yX3_unitsIn, Cond.selects RX3 yX3_unitsIn yX3_unitsIn, Cond.initialized RX3, Cond.code yX3_unitsIn cX3_unitsIn 2 (some .long), Cond.fieldLink RX3 15 "LotFlows$Stock" "came" "[J", Cond.fieldLink RX3 18 "LotFlows$Stock" "went" "[J", Cond.methodLink RX4 185 yX4_tellTopFlows, Cond.instanceMethod yX4_tellTopFlows, Cond.selects RX4 yX4_tellTopFlows yX4_tellTopFlows, Cond.code yX4_tellTopFlows cX4_tellTopFlows 13 none, Cond.methodLink RX4 104 yX4_tell, Cond.instanceMethod yX4_tell, Cond.selects RX4 yX4_tell yX4_tell, Cond.code yX4_tell cX4_tell 8 (some .boolean), Cond.fieldLink RX4 39 "LotFlows" "trial" "LLotFlows$Stock;", Cond.methodLink RX4 200 yX0_turnFor, Cond.instanceMethod yX0_turnFor, Cond.selects RX0 yX0_turnFor yX0_turnFor, Cond.code yX0_turnFor cX0_turnFor 4 (some .int)]
def wsX4_top_r4 : List Cond := [Cond.methodLink RX4 204 yX3_move, Cond.instanceMethod yX3_move, Cond.selects RX3 yX3_move yX3_move, Cond.code yX3_move cX3_move 8 (some .boolean), Cond.fieldLink RX3 33 "LotFlows$Stock" "nodes" "LLotFlows$Nodes;", Cond.fieldLink RX3 37 "LotFlows$Nodes" "count" "I", Cond.fieldLink RX3 27 "LotFlows$Stock" "portion" "[J", Cond.fieldLink RX3 9 "LotFlows$Stock" "units" "[J", Cond.fieldLink RX3 24 "LotFlows$Stock" "reached" "[J", Cond.fieldLink RX3 21 "LotFlows$Stock" "drained" "[J", Cond.methodLink RX3 85 yX3_unitsIn, Cond.methodLink RX3 89 yX3_part, Cond.instanceMethod yX3_part, Cond.selects RX3 yX3_part yX3_part, Cond.code yX3_part cX3_part 11 none, Cond.fieldLink RX3 30 "LotFlows$Stock" "rest" "[J", Cond.methodLink RX3 43 yX3_unitsOf, Cond.instanceMethod yX3_unitsOf, Cond.selects RX3 yX3_unitsOf yX3_unitsOf, Cond.code yX3_unitsOf cX3_unitsOf 3 (some .long), Cond.methodLink RX3 96 yX3_greatestRest, Cond.instanceMethod yX3_greatestRest, Cond.selects RX3 yX3_greatestRest yX3_greatestRest, Cond.code yX3_greatestRest cX3_greatestRest 3 (some .int)]
def wsX4_top_r5 : List Cond := [Cond.methodLink RX3 93 yX1_isDrain, Cond.methodLink RX4 208 yX0_insert, Cond.instanceMethod yX0_insert, Cond.selects RX0 yX0_insert yX0_insert, Cond.code yX0_insert cX0_insert 9 none, Cond.fieldLink RX0 9 "LotFlows$Flows" "from" "[I", Cond.fieldLink RX0 15 "LotFlows$Flows" "to" "[I", Cond.fieldLink RX0 18 "LotFlows$Flows" "amount" "[J", Cond.methodLink RX4 166 yX3_replay, Cond.instanceMethod yX3_replay, Cond.selects RX3 yX3_replay yX3_replay, Cond.code yX3_replay cX3_replay 4 (some .boolean), Cond.fieldLink RX3 57 "LotFlows$Flows" "count" "I", Cond.fieldLink RX3 60 "LotFlows$Flows" "order" "[I", Cond.fieldLink RX3 64 "LotFlows$Flows" "amount" "[J", Cond.fieldLink RX3 65 "LotFlows$Flows" "from" "[I", Cond.fieldLink RX3 68 "LotFlows$Flows" "to" "[I", Cond.methodLink RX3 54 yX3_clear, Cond.instanceMethod yX3_clear, Cond.selects RX3 yX3_clear yX3_clear, Cond.code yX3_clear cX3_clear 2 none, Cond.methodLink RX3 75 yJ7_fill_d0a16, Cond.static yJ7_fill_d0a16, Cond.initialized RJ7]
def wsX4_top_r6 : List Cond := [Cond.code yJ7_fill_d0a16 cJ7_fill_d0a16 5 none, Cond.methodLink RX3 81 yX3_admit, Cond.instanceMethod yX3_admit, Cond.selects RX3 yX3_admit yX3_admit, Cond.code yX3_admit cX3_admit 2 none, Cond.fieldLink RX3 51 "LotFlows$Nodes" "amount" "[J", Cond.methodLink RX3 47 yX1_isLot, Cond.methodLink RX3 71 yX3_move, Cond.methodLink RX4 212 yX0_removeNewest, Cond.instanceMethod yX0_removeNewest, Cond.selects RX0 yX0_removeNewest yX0_removeNewest, Cond.code yX0_removeNewest cX0_removeNewest 3 none, Cond.methodLink RX4 170 yX4_takeTrial, Cond.instanceMethod yX4_takeTrial, Cond.selects RX4 yX4_takeTrial yX4_takeTrial, Cond.code yX4_takeTrial cX4_takeTrial 2 none]
def wsX4_top : List Cond := .code yX4_top cX4_top 8 (some .int) :: ((wsX4_top_r1 ++ (wsX4_top_r2 ++ (wsX4_top_r3 ++ (wsX4_top_r4 ++ (wsX4_top_r5 ++ wsX4_top_r6))))) ++ wsX40 ++ wsX00 ++ wsX10 ++ wsX30)
def wsX4_whole_r1 : List Cond := [Cond.fieldLink RX4 10 "LotFlows" "nodes" "LLotFlows$Nodes;", Cond.fieldLink RX4 35 "LotFlows" "stock" "LLotFlows$Stock;", Cond.methodLink RX4 65 yX1_has, Cond.instanceMethod yX1_has, Cond.selects RX1 yX1_has yX1_has, Cond.initialized RX1, Cond.code yX1_has cX1_has 2 (some .boolean), Cond.fieldLink RX1 32 "LotFlows$Nodes" "count" "I", Cond.methodLink RX4 189 yX3_sumOfLots, Cond.instanceMethod yX3_sumOfLots, Cond.selects RX3 yX3_sumOfLots yX3_sumOfLots, Cond.initialized RX3, Cond.code yX3_sumOfLots cX3_sumOfLots 5 (some .long), Cond.fieldLink RX3 33 "LotFlows$Stock" "nodes" "LLotFlows$Nodes;", Cond.fieldLink RX3 37 "LotFlows$Nodes" "count" "I", Cond.methodLink RX3 43 yX3_unitsOf, Cond.instanceMethod yX3_unitsOf, Cond.selects RX3 yX3_unitsOf yX3_unitsOf, Cond.code yX3_unitsOf cX3_unitsOf 3 (some .long), Cond.fieldLink RX3 9 "LotFlows$Stock" "units" "[J", Cond.methodLink RX4 110 yX3_unitsIn, Cond.instanceMethod yX3_unitsIn, Cond.selects RX3 yX3_unitsIn yX3_unitsIn, Cond.code yX3_unitsIn cX3_unitsIn 2 (some .long)]
def wsX4_whole_r2 : List Cond := [Cond.fieldLink RX3 15 "LotFlows$Stock" "came" "[J", Cond.fieldLink RX3 18 "LotFlows$Stock" "went" "[J"]
def wsX4_whole : List Cond := .code yX4_whole cX4_whole 2 (some .boolean) :: ((wsX4_whole_r1 ++ wsX4_whole_r2) ++ wsX40 ++ wsX10 ++ wsX30)
def wsX4_loss : List Cond := .code yX4_loss cX4_loss 2 (some .long) :: ([.fieldLink RX4 10 "LotFlows" "nodes" "LLotFlows$Nodes;", .fieldLink RX4 35 "LotFlows" "stock" "LLotFlows$Stock;", .fieldLink RX4 192 "LotFlows$Stock" "drained" "[J", .constantLong RX4 114 (-1), .methodLink RX4 65 yX1_has, .instanceMethod yX1_has, .selects RX1 yX1_has yX1_has, .initialized RX1, .code yX1_has cX1_has 2 (some .boolean), .fieldLink RX1 32 "LotFlows$Nodes" "count" "I"] ++ wsX40 ++ wsX30 ++ wsX10)
def wsX5_init_r1 : List Cond := [Cond.methodLink RX5 1 objectInit, Cond.instanceMethod objectInit, Cond.code objectInit ⟨#[0xb1]⟩ 1 none, Cond.arrayClass .int, Cond.fieldLink RX5 9 "LotFlowsModel" "kinds" "[I", Cond.arrayClass .long, Cond.fieldLink RX5 13 "LotFlowsModel" "amounts" "[J", Cond.fieldLink RX5 17 "LotFlowsModel" "days" "[J", Cond.fieldLink RX5 20 "LotFlowsModel" "places" "[I", Cond.fieldLink RX5 23 "LotFlowsModel" "customers" "[I", Cond.arrayClass .boolean, Cond.fieldLink RX5 26 "LotFlowsModel" "held" "[Z", Cond.fieldLink RX5 30 "LotFlowsModel" "froms" "[I", Cond.fieldLink RX5 33 "LotFlowsModel" "tos" "[I", Cond.fieldLink RX5 36 "LotFlowsModel" "flows" "[J", Cond.fieldLink RX5 39 "LotFlowsModel" "flowDays" "[J", Cond.fieldLink RX5 42 "LotFlowsModel" "units" "[J", Cond.fieldLink RX5 45 "LotFlowsModel" "came" "[Z", Cond.fieldLink RX5 48 "LotFlowsModel" "before" "[J", Cond.fieldLink RX5 51 "LotFlowsModel" "rests" "[J", Cond.fieldLink RX5 54 "LotFlowsModel" "parts" "[J", Cond.fieldLink RX5 57 "LotFlowsModel" "order" "[I", Cond.fieldLink RX5 60 "LotFlowsModel" "rowPlaces" "[I", Cond.fieldLink RX5 63 "LotFlowsModel" "rowCustomers" "[I"]
def wsX5_init_r2 : List Cond := [Cond.fieldLink RX5 66 "LotFlowsModel" "rowUnits" "[J", Cond.fieldLink RX5 69 "LotFlowsModel" "rowThings" "[I"]
def wsX5_init : List Cond := .code yX5_init cX5_init 1 none :: ((wsX5_init_r1 ++ wsX5_init_r2) ++ wsX50)
def wsX5_thrown : List Cond := .code yX5_thrown cX5_thrown 1 (some .int) :: ([.fieldLink RX5 72 "LotFlowsModel" "thrown" "I"] ++ wsX50)
def wsX5_isNode : List Cond := .code yX5_isNode cX5_isNode 2 (some .boolean) :: ([.fieldLink RX5 76 "LotFlowsModel" "nodes" "I"] ++ wsX50)
def wsX5_isLot : List Cond := .code yX5_isLot cX5_isLot 2 (some .boolean) :: ([.fieldLink RX5 9 "LotFlowsModel" "kinds" "[I", .methodLink RX5 79 yX5_isNode, .instanceMethod yX5_isNode, .selects RX5 yX5_isNode yX5_isNode, .initialized RX5, .code yX5_isNode cX5_isNode 2 (some .boolean), .fieldLink RX5 76 "LotFlowsModel" "nodes" "I"] ++ wsX50)
def wsX5_make : List Cond := .code yX5_make cX5_make 6 (some .int) :: ([.fieldLink RX5 76 "LotFlowsModel" "nodes" "I", .fieldLink RX5 9 "LotFlowsModel" "kinds" "[I", .fieldLink RX5 13 "LotFlowsModel" "amounts" "[J", .fieldLink RX5 17 "LotFlowsModel" "days" "[J", .fieldLink RX5 20 "LotFlowsModel" "places" "[I", .fieldLink RX5 23 "LotFlowsModel" "customers" "[I", .fieldLink RX5 26 "LotFlowsModel" "held" "[Z"] ++ wsX50)
def wsX5_lot : List Cond := .code yX5_lot cX5_lot 5 (some .int) :: ([.fieldLink RX5 72 "LotFlowsModel" "thrown" "I", .constantLong RX5 83 (1000000), .constantLong RX5 85 (100000), .methodLink RX5 87 yX5_make, .instanceMethod yX5_make, .selects RX5 yX5_make yX5_make, .initialized RX5, .code yX5_make cX5_make 6 (some .int), .fieldLink RX5 76 "LotFlowsModel" "nodes" "I", .fieldLink RX5 9 "LotFlowsModel" "kinds" "[I", .fieldLink RX5 13 "LotFlowsModel" "amounts" "[J", .fieldLink RX5 17 "LotFlowsModel" "days" "[J", .fieldLink RX5 20 "LotFlowsModel" "places" "[I", .fieldLink RX5 23 "LotFlowsModel" "customers" "[I", .fieldLink RX5 26 "LotFlowsModel" "held" "[Z"] ++ wsX50)
def wsX5_thing : List Cond := .code yX5_thing cX5_thing 2 (some .int) :: ([.fieldLink RX5 72 "LotFlowsModel" "thrown" "I", .methodLink RX5 87 yX5_make, .instanceMethod yX5_make, .selects RX5 yX5_make yX5_make, .initialized RX5, .code yX5_make cX5_make 6 (some .int), .fieldLink RX5 76 "LotFlowsModel" "nodes" "I", .fieldLink RX5 9 "LotFlowsModel" "kinds" "[I", .fieldLink RX5 13 "LotFlowsModel" "amounts" "[J", .fieldLink RX5 17 "LotFlowsModel" "days" "[J", .fieldLink RX5 20 "LotFlowsModel" "places" "[I", .fieldLink RX5 23 "LotFlowsModel" "customers" "[I", .fieldLink RX5 26 "LotFlowsModel" "held" "[Z"] ++ wsX50)
def wsX5_part : List Cond := .code yX5_part cX5_part 11 none :: ([.fieldLink RX5 76 "LotFlowsModel" "nodes" "I", .fieldLink RX5 42 "LotFlowsModel" "units" "[J", .fieldLink RX5 54 "LotFlowsModel" "parts" "[J", .fieldLink RX5 51 "LotFlowsModel" "rests" "[J", .constantLong RX5 91 (-1)] ++ wsX50)
def wsX5_sum : List Cond := .code yX5_sum cX5_sum 5 (some .long) :: ([.fieldLink RX5 76 "LotFlowsModel" "nodes" "I", .fieldLink RX5 42 "LotFlowsModel" "units" "[J"] ++ wsX50)
def wsX5_walk : List Cond := .code yX5_walk cX5_walk 7 (some .boolean) :: ([.fieldLink RX5 76 "LotFlowsModel" "nodes" "I", .fieldLink RX5 9 "LotFlowsModel" "kinds" "[I", .fieldLink RX5 42 "LotFlowsModel" "units" "[J", .fieldLink RX5 13 "LotFlowsModel" "amounts" "[J", .fieldLink RX5 45 "LotFlowsModel" "came" "[Z", .fieldLink RX5 93 "LotFlowsModel" "count" "I", .fieldLink RX5 39 "LotFlowsModel" "flowDays" "[J", .fieldLink RX5 57 "LotFlowsModel" "order" "[I", .fieldLink RX5 30 "LotFlowsModel" "froms" "[I", .fieldLink RX5 36 "LotFlowsModel" "flows" "[J", .fieldLink RX5 17 "LotFlowsModel" "days" "[J", .fieldLink RX5 54 "LotFlowsModel" "parts" "[J", .fieldLink RX5 33 "LotFlowsModel" "tos" "[I", .methodLink RX5 96 yX5_sum, .instanceMethod yX5_sum, .selects RX5 yX5_sum yX5_sum, .initialized RX5, .code yX5_sum cX5_sum 5 (some .long), .methodLink RX5 100 yX5_part, .instanceMethod yX5_part, .selects RX5 yX5_part yX5_part, .code yX5_part cX5_part 11 none, .fieldLink RX5 51 "LotFlowsModel" "rests" "[J", .constantLong RX5 91 (-1)] ++ wsX50)
def wsX5_put : List Cond := .code yX5_put cX5_put 7 none :: ([.fieldLink RX5 30 "LotFlowsModel" "froms" "[I", .fieldLink RX5 93 "LotFlowsModel" "count" "I", .fieldLink RX5 33 "LotFlowsModel" "tos" "[I", .fieldLink RX5 36 "LotFlowsModel" "flows" "[J", .fieldLink RX5 39 "LotFlowsModel" "flowDays" "[J"] ++ wsX50)
def wsX5_flow_r1 : List Cond := [Cond.fieldLink RX5 72 "LotFlowsModel" "thrown" "I", Cond.fieldLink RX5 93 "LotFlowsModel" "count" "I", Cond.fieldLink RX5 9 "LotFlowsModel" "kinds" "[I", Cond.constantLong RX5 83 (1000000), Cond.constantLong RX5 85 (100000), Cond.fieldLink RX5 26 "LotFlowsModel" "held" "[Z", Cond.methodLink RX5 79 yX5_isNode, Cond.instanceMethod yX5_isNode, Cond.selects RX5 yX5_isNode yX5_isNode, Cond.initialized RX5, Cond.code yX5_isNode cX5_isNode 2 (some .boolean), Cond.fieldLink RX5 76 "LotFlowsModel" "nodes" "I", Cond.methodLink RX5 104 yX5_put, Cond.instanceMethod yX5_put, Cond.selects RX5 yX5_put yX5_put, Cond.code yX5_put cX5_put 7 none, Cond.fieldLink RX5 30 "LotFlowsModel" "froms" "[I", Cond.fieldLink RX5 33 "LotFlowsModel" "tos" "[I", Cond.fieldLink RX5 36 "LotFlowsModel" "flows" "[J", Cond.fieldLink RX5 39 "LotFlowsModel" "flowDays" "[J", Cond.methodLink RX5 108 yX5_walk, Cond.instanceMethod yX5_walk, Cond.selects RX5 yX5_walk yX5_walk, Cond.code yX5_walk cX5_walk 7 (some .boolean)]
def wsX5_flow_r2 : List Cond := [Cond.fieldLink RX5 42 "LotFlowsModel" "units" "[J", Cond.fieldLink RX5 13 "LotFlowsModel" "amounts" "[J", Cond.fieldLink RX5 45 "LotFlowsModel" "came" "[Z", Cond.fieldLink RX5 57 "LotFlowsModel" "order" "[I", Cond.fieldLink RX5 17 "LotFlowsModel" "days" "[J", Cond.fieldLink RX5 54 "LotFlowsModel" "parts" "[J", Cond.methodLink RX5 96 yX5_sum, Cond.instanceMethod yX5_sum, Cond.selects RX5 yX5_sum yX5_sum, Cond.code yX5_sum cX5_sum 5 (some .long), Cond.methodLink RX5 100 yX5_part, Cond.instanceMethod yX5_part, Cond.selects RX5 yX5_part yX5_part, Cond.code yX5_part cX5_part 11 none, Cond.fieldLink RX5 51 "LotFlowsModel" "rests" "[J", Cond.constantLong RX5 91 (-1)]
def wsX5_flow : List Cond := .code yX5_flow cX5_flow 7 none :: ((wsX5_flow_r1 ++ wsX5_flow_r2) ++ wsX50)
def wsX5_left_r1 : List Cond := [Cond.fieldLink RX5 72 "LotFlowsModel" "thrown" "I", Cond.constantLong RX5 91 (-1), Cond.methodLink RX5 79 yX5_isNode, Cond.instanceMethod yX5_isNode, Cond.selects RX5 yX5_isNode yX5_isNode, Cond.initialized RX5, Cond.code yX5_isNode cX5_isNode 2 (some .boolean), Cond.fieldLink RX5 76 "LotFlowsModel" "nodes" "I", Cond.methodLink RX5 108 yX5_walk, Cond.instanceMethod yX5_walk, Cond.selects RX5 yX5_walk yX5_walk, Cond.code yX5_walk cX5_walk 7 (some .boolean), Cond.fieldLink RX5 9 "LotFlowsModel" "kinds" "[I", Cond.fieldLink RX5 42 "LotFlowsModel" "units" "[J", Cond.fieldLink RX5 13 "LotFlowsModel" "amounts" "[J", Cond.fieldLink RX5 45 "LotFlowsModel" "came" "[Z", Cond.fieldLink RX5 93 "LotFlowsModel" "count" "I", Cond.fieldLink RX5 39 "LotFlowsModel" "flowDays" "[J", Cond.fieldLink RX5 57 "LotFlowsModel" "order" "[I", Cond.fieldLink RX5 30 "LotFlowsModel" "froms" "[I", Cond.fieldLink RX5 36 "LotFlowsModel" "flows" "[J", Cond.fieldLink RX5 17 "LotFlowsModel" "days" "[J", Cond.fieldLink RX5 54 "LotFlowsModel" "parts" "[J", Cond.fieldLink RX5 33 "LotFlowsModel" "tos" "[I"]
def wsX5_left_r2 : List Cond := [Cond.methodLink RX5 96 yX5_sum, Cond.instanceMethod yX5_sum, Cond.selects RX5 yX5_sum yX5_sum, Cond.code yX5_sum cX5_sum 5 (some .long), Cond.methodLink RX5 100 yX5_part, Cond.instanceMethod yX5_part, Cond.selects RX5 yX5_part yX5_part, Cond.code yX5_part cX5_part 11 none, Cond.fieldLink RX5 51 "LotFlowsModel" "rests" "[J"]
def wsX5_left : List Cond := .code yX5_left cX5_left 3 (some .long) :: ((wsX5_left_r1 ++ wsX5_left_r2) ++ wsX50)
def wsX5_share_r1 : List Cond := [Cond.fieldLink RX5 72 "LotFlowsModel" "thrown" "I", Cond.constantLong RX5 91 (-1), Cond.fieldLink RX5 42 "LotFlowsModel" "units" "[J", Cond.methodLink RX5 79 yX5_isNode, Cond.instanceMethod yX5_isNode, Cond.selects RX5 yX5_isNode yX5_isNode, Cond.initialized RX5, Cond.code yX5_isNode cX5_isNode 2 (some .boolean), Cond.fieldLink RX5 76 "LotFlowsModel" "nodes" "I", Cond.methodLink RX5 112 yX5_isLot, Cond.instanceMethod yX5_isLot, Cond.selects RX5 yX5_isLot yX5_isLot, Cond.code yX5_isLot cX5_isLot 2 (some .boolean), Cond.fieldLink RX5 9 "LotFlowsModel" "kinds" "[I", Cond.methodLink RX5 108 yX5_walk, Cond.instanceMethod yX5_walk, Cond.selects RX5 yX5_walk yX5_walk, Cond.code yX5_walk cX5_walk 7 (some .boolean), Cond.fieldLink RX5 13 "LotFlowsModel" "amounts" "[J", Cond.fieldLink RX5 45 "LotFlowsModel" "came" "[Z", Cond.fieldLink RX5 93 "LotFlowsModel" "count" "I", Cond.fieldLink RX5 39 "LotFlowsModel" "flowDays" "[J", Cond.fieldLink RX5 57 "LotFlowsModel" "order" "[I", Cond.fieldLink RX5 30 "LotFlowsModel" "froms" "[I"]
def wsX5_share_r2 : List Cond := [Cond.fieldLink RX5 36 "LotFlowsModel" "flows" "[J", Cond.fieldLink RX5 17 "LotFlowsModel" "days" "[J", Cond.fieldLink RX5 54 "LotFlowsModel" "parts" "[J", Cond.fieldLink RX5 33 "LotFlowsModel" "tos" "[I", Cond.methodLink RX5 96 yX5_sum, Cond.instanceMethod yX5_sum, Cond.selects RX5 yX5_sum yX5_sum, Cond.code yX5_sum cX5_sum 5 (some .long), Cond.methodLink RX5 100 yX5_part, Cond.instanceMethod yX5_part, Cond.selects RX5 yX5_part yX5_part, Cond.code yX5_part cX5_part 11 none, Cond.fieldLink RX5 51 "LotFlowsModel" "rests" "[J"]
def wsX5_share : List Cond := .code yX5_share cX5_share 15 (some .long) :: ((wsX5_share_r1 ++ wsX5_share_r2) ++ wsX50)
def wsX5_back_r1 : List Cond := [Cond.fieldLink RX5 72 "LotFlowsModel" "thrown" "I", Cond.fieldLink RX5 76 "LotFlowsModel" "nodes" "I", Cond.fieldLink RX5 45 "LotFlowsModel" "came" "[Z", Cond.methodLink RX5 79 yX5_isNode, Cond.instanceMethod yX5_isNode, Cond.selects RX5 yX5_isNode yX5_isNode, Cond.initialized RX5, Cond.code yX5_isNode cX5_isNode 2 (some .boolean), Cond.methodLink RX5 108 yX5_walk, Cond.instanceMethod yX5_walk, Cond.selects RX5 yX5_walk yX5_walk, Cond.code yX5_walk cX5_walk 7 (some .boolean), Cond.fieldLink RX5 9 "LotFlowsModel" "kinds" "[I", Cond.fieldLink RX5 42 "LotFlowsModel" "units" "[J", Cond.fieldLink RX5 13 "LotFlowsModel" "amounts" "[J", Cond.fieldLink RX5 93 "LotFlowsModel" "count" "I", Cond.fieldLink RX5 39 "LotFlowsModel" "flowDays" "[J", Cond.fieldLink RX5 57 "LotFlowsModel" "order" "[I", Cond.fieldLink RX5 30 "LotFlowsModel" "froms" "[I", Cond.fieldLink RX5 36 "LotFlowsModel" "flows" "[J", Cond.fieldLink RX5 17 "LotFlowsModel" "days" "[J", Cond.fieldLink RX5 54 "LotFlowsModel" "parts" "[J", Cond.fieldLink RX5 33 "LotFlowsModel" "tos" "[I", Cond.methodLink RX5 96 yX5_sum]
def wsX5_back_r2 : List Cond := [Cond.instanceMethod yX5_sum, Cond.selects RX5 yX5_sum yX5_sum, Cond.code yX5_sum cX5_sum 5 (some .long), Cond.methodLink RX5 100 yX5_part, Cond.instanceMethod yX5_part, Cond.selects RX5 yX5_part yX5_part, Cond.code yX5_part cX5_part 11 none, Cond.fieldLink RX5 51 "LotFlowsModel" "rests" "[J", Cond.constantLong RX5 91 (-1)]
def wsX5_back : List Cond := .code yX5_back cX5_back 6 (some .int) :: ((wsX5_back_r1 ++ wsX5_back_r2) ++ wsX50)
def wsX5_forward_r1 : List Cond := [Cond.fieldLink RX5 72 "LotFlowsModel" "thrown" "I", Cond.fieldLink RX5 76 "LotFlowsModel" "nodes" "I", Cond.fieldLink RX5 9 "LotFlowsModel" "kinds" "[I", Cond.fieldLink RX5 45 "LotFlowsModel" "came" "[Z", Cond.methodLink RX5 112 yX5_isLot, Cond.instanceMethod yX5_isLot, Cond.selects RX5 yX5_isLot yX5_isLot, Cond.initialized RX5, Cond.code yX5_isLot cX5_isLot 2 (some .boolean), Cond.methodLink RX5 79 yX5_isNode, Cond.instanceMethod yX5_isNode, Cond.selects RX5 yX5_isNode yX5_isNode, Cond.code yX5_isNode cX5_isNode 2 (some .boolean), Cond.methodLink RX5 108 yX5_walk, Cond.instanceMethod yX5_walk, Cond.selects RX5 yX5_walk yX5_walk, Cond.code yX5_walk cX5_walk 7 (some .boolean), Cond.fieldLink RX5 42 "LotFlowsModel" "units" "[J", Cond.fieldLink RX5 13 "LotFlowsModel" "amounts" "[J", Cond.fieldLink RX5 93 "LotFlowsModel" "count" "I", Cond.fieldLink RX5 39 "LotFlowsModel" "flowDays" "[J", Cond.fieldLink RX5 57 "LotFlowsModel" "order" "[I", Cond.fieldLink RX5 30 "LotFlowsModel" "froms" "[I", Cond.fieldLink RX5 36 "LotFlowsModel" "flows" "[J"]
def wsX5_forward_r2 : List Cond := [Cond.fieldLink RX5 17 "LotFlowsModel" "days" "[J", Cond.fieldLink RX5 54 "LotFlowsModel" "parts" "[J", Cond.fieldLink RX5 33 "LotFlowsModel" "tos" "[I", Cond.methodLink RX5 96 yX5_sum, Cond.instanceMethod yX5_sum, Cond.selects RX5 yX5_sum yX5_sum, Cond.code yX5_sum cX5_sum 5 (some .long), Cond.methodLink RX5 100 yX5_part, Cond.instanceMethod yX5_part, Cond.selects RX5 yX5_part yX5_part, Cond.code yX5_part cX5_part 11 none, Cond.fieldLink RX5 51 "LotFlowsModel" "rests" "[J", Cond.constantLong RX5 91 (-1)]
def wsX5_forward : List Cond := .code yX5_forward cX5_forward 6 (some .int) :: ((wsX5_forward_r1 ++ wsX5_forward_r2) ++ wsX50)
def wsX5_place : List Cond := .code yX5_place cX5_place 4 (some .boolean) :: ([.fieldLink RX5 72 "LotFlowsModel" "thrown" "I", .fieldLink RX5 9 "LotFlowsModel" "kinds" "[I", .fieldLink RX5 20 "LotFlowsModel" "places" "[I", .fieldLink RX5 23 "LotFlowsModel" "customers" "[I", .methodLink RX5 79 yX5_isNode, .instanceMethod yX5_isNode, .selects RX5 yX5_isNode yX5_isNode, .initialized RX5, .code yX5_isNode cX5_isNode 2 (some .boolean), .fieldLink RX5 76 "LotFlowsModel" "nodes" "I"] ++ wsX50)
def wsX5_recall_r1 : List Cond := [Cond.fieldLink RX5 72 "LotFlowsModel" "thrown" "I", Cond.fieldLink RX5 115 "LotFlowsModel" "rows" "I", Cond.constant RX5 118 (1000000), Cond.fieldLink RX5 76 "LotFlowsModel" "nodes" "I", Cond.fieldLink RX5 23 "LotFlowsModel" "customers" "[I", Cond.fieldLink RX5 20 "LotFlowsModel" "places" "[I", Cond.fieldLink RX5 9 "LotFlowsModel" "kinds" "[I", Cond.fieldLink RX5 45 "LotFlowsModel" "came" "[Z", Cond.fieldLink RX5 60 "LotFlowsModel" "rowPlaces" "[I", Cond.fieldLink RX5 63 "LotFlowsModel" "rowCustomers" "[I", Cond.fieldLink RX5 66 "LotFlowsModel" "rowUnits" "[J", Cond.fieldLink RX5 69 "LotFlowsModel" "rowThings" "[I", Cond.fieldLink RX5 42 "LotFlowsModel" "units" "[J", Cond.methodLink RX5 112 yX5_isLot, Cond.instanceMethod yX5_isLot, Cond.selects RX5 yX5_isLot yX5_isLot, Cond.initialized RX5, Cond.code yX5_isLot cX5_isLot 2 (some .boolean), Cond.methodLink RX5 79 yX5_isNode, Cond.instanceMethod yX5_isNode, Cond.selects RX5 yX5_isNode yX5_isNode, Cond.code yX5_isNode cX5_isNode 2 (some .boolean), Cond.methodLink RX5 108 yX5_walk, Cond.instanceMethod yX5_walk]
def wsX5_recall_r2 : List Cond := [Cond.selects RX5 yX5_walk yX5_walk, Cond.code yX5_walk cX5_walk 7 (some .boolean), Cond.fieldLink RX5 13 "LotFlowsModel" "amounts" "[J", Cond.fieldLink RX5 93 "LotFlowsModel" "count" "I", Cond.fieldLink RX5 39 "LotFlowsModel" "flowDays" "[J", Cond.fieldLink RX5 57 "LotFlowsModel" "order" "[I", Cond.fieldLink RX5 30 "LotFlowsModel" "froms" "[I", Cond.fieldLink RX5 36 "LotFlowsModel" "flows" "[J", Cond.fieldLink RX5 17 "LotFlowsModel" "days" "[J", Cond.fieldLink RX5 54 "LotFlowsModel" "parts" "[J", Cond.fieldLink RX5 33 "LotFlowsModel" "tos" "[I", Cond.methodLink RX5 96 yX5_sum, Cond.instanceMethod yX5_sum, Cond.selects RX5 yX5_sum yX5_sum, Cond.code yX5_sum cX5_sum 5 (some .long), Cond.methodLink RX5 100 yX5_part, Cond.instanceMethod yX5_part, Cond.selects RX5 yX5_part yX5_part, Cond.code yX5_part cX5_part 11 none, Cond.fieldLink RX5 51 "LotFlowsModel" "rests" "[J", Cond.constantLong RX5 91 (-1)]
def wsX5_recall : List Cond := .code yX5_recall cX5_recall 9 (some .int) :: ((wsX5_recall_r1 ++ wsX5_recall_r2) ++ wsX50)
def wsX5_recalled : List Cond := .code yX5_recalled cX5_recalled 3 (some .int) :: ([.fieldLink RX5 72 "LotFlowsModel" "thrown" "I", .fieldLink RX5 115 "LotFlowsModel" "rows" "I", .fieldLink RX5 60 "LotFlowsModel" "rowPlaces" "[I", .fieldLink RX5 63 "LotFlowsModel" "rowCustomers" "[I", .fieldLink RX5 66 "LotFlowsModel" "rowUnits" "[J", .constantLong RX5 119 (2147483647), .constant RX5 121 (2147483647), .fieldLink RX5 69 "LotFlowsModel" "rowThings" "[I"] ++ wsX50)
def wsX5_hold : List Cond := .code yX5_hold cX5_hold 3 (some .boolean) :: ([.fieldLink RX5 72 "LotFlowsModel" "thrown" "I", .fieldLink RX5 26 "LotFlowsModel" "held" "[Z", .methodLink RX5 79 yX5_isNode, .instanceMethod yX5_isNode, .selects RX5 yX5_isNode yX5_isNode, .initialized RX5, .code yX5_isNode cX5_isNode 2 (some .boolean), .fieldLink RX5 76 "LotFlowsModel" "nodes" "I"] ++ wsX50)
def wsX5_correct_r1 : List Cond := [Cond.fieldLink RX5 72 "LotFlowsModel" "thrown" "I", Cond.fieldLink RX5 93 "LotFlowsModel" "count" "I", Cond.constantLong RX5 83 (1000000), Cond.fieldLink RX5 122 "LotFlowsModel" "lastTold" "J", Cond.constantLong RX5 85 (100000), Cond.fieldLink RX5 26 "LotFlowsModel" "held" "[Z", Cond.fieldLink RX5 30 "LotFlowsModel" "froms" "[I", Cond.fieldLink RX5 36 "LotFlowsModel" "flows" "[J", Cond.fieldLink RX5 42 "LotFlowsModel" "units" "[J", Cond.fieldLink RX5 48 "LotFlowsModel" "before" "[J", Cond.methodLink RX5 126 arraycopyName, Cond.native arraycopyName, Cond.static arraycopyName, Cond.initialized "java/lang/System", Cond.fieldLink RX5 76 "LotFlowsModel" "nodes" "I", Cond.methodLink RX5 108 yX5_walk, Cond.instanceMethod yX5_walk, Cond.selects RX5 yX5_walk yX5_walk, Cond.initialized RX5, Cond.code yX5_walk cX5_walk 7 (some .boolean), Cond.fieldLink RX5 9 "LotFlowsModel" "kinds" "[I", Cond.fieldLink RX5 13 "LotFlowsModel" "amounts" "[J", Cond.fieldLink RX5 45 "LotFlowsModel" "came" "[Z", Cond.fieldLink RX5 39 "LotFlowsModel" "flowDays" "[J"]
def wsX5_correct_r2 : List Cond := [Cond.fieldLink RX5 57 "LotFlowsModel" "order" "[I", Cond.fieldLink RX5 17 "LotFlowsModel" "days" "[J", Cond.fieldLink RX5 54 "LotFlowsModel" "parts" "[J", Cond.fieldLink RX5 33 "LotFlowsModel" "tos" "[I", Cond.methodLink RX5 96 yX5_sum, Cond.instanceMethod yX5_sum, Cond.selects RX5 yX5_sum yX5_sum, Cond.code yX5_sum cX5_sum 5 (some .long), Cond.methodLink RX5 100 yX5_part, Cond.instanceMethod yX5_part, Cond.selects RX5 yX5_part yX5_part, Cond.code yX5_part cX5_part 11 none, Cond.fieldLink RX5 51 "LotFlowsModel" "rests" "[J", Cond.constantLong RX5 91 (-1)]
def wsX5_correct : List Cond := .code yX5_correct cX5_correct 13 (some .int) :: ((wsX5_correct_r1 ++ wsX5_correct_r2) ++ wsX50)
def wsX5_top_r1 : List Cond := [Cond.fieldLink RX5 72 "LotFlowsModel" "thrown" "I", Cond.fieldLink RX5 9 "LotFlowsModel" "kinds" "[I", Cond.constantLong RX5 83 (1000000), Cond.fieldLink RX5 93 "LotFlowsModel" "count" "I", Cond.fieldLink RX5 39 "LotFlowsModel" "flowDays" "[J", Cond.constantLong RX5 91 (-1), Cond.fieldLink RX5 76 "LotFlowsModel" "nodes" "I", Cond.fieldLink RX5 17 "LotFlowsModel" "days" "[J", Cond.fieldLink RX5 26 "LotFlowsModel" "held" "[Z", Cond.fieldLink RX5 42 "LotFlowsModel" "units" "[J", Cond.methodLink RX5 79 yX5_isNode, Cond.instanceMethod yX5_isNode, Cond.selects RX5 yX5_isNode yX5_isNode, Cond.initialized RX5, Cond.code yX5_isNode cX5_isNode 2 (some .boolean), Cond.methodLink RX5 112 yX5_isLot, Cond.instanceMethod yX5_isLot, Cond.selects RX5 yX5_isLot yX5_isLot, Cond.code yX5_isLot cX5_isLot 2 (some .boolean), Cond.methodLink RX5 108 yX5_walk, Cond.instanceMethod yX5_walk, Cond.selects RX5 yX5_walk yX5_walk, Cond.code yX5_walk cX5_walk 7 (some .boolean), Cond.fieldLink RX5 13 "LotFlowsModel" "amounts" "[J"]
def wsX5_top_r2 : List Cond := [Cond.fieldLink RX5 45 "LotFlowsModel" "came" "[Z", Cond.fieldLink RX5 57 "LotFlowsModel" "order" "[I", Cond.fieldLink RX5 30 "LotFlowsModel" "froms" "[I", Cond.fieldLink RX5 36 "LotFlowsModel" "flows" "[J", Cond.fieldLink RX5 54 "LotFlowsModel" "parts" "[J", Cond.fieldLink RX5 33 "LotFlowsModel" "tos" "[I", Cond.methodLink RX5 96 yX5_sum, Cond.instanceMethod yX5_sum, Cond.selects RX5 yX5_sum yX5_sum, Cond.code yX5_sum cX5_sum 5 (some .long), Cond.methodLink RX5 100 yX5_part, Cond.instanceMethod yX5_part, Cond.selects RX5 yX5_part yX5_part, Cond.code yX5_part cX5_part 11 none, Cond.fieldLink RX5 51 "LotFlowsModel" "rests" "[J", Cond.methodLink RX5 104 yX5_put, Cond.instanceMethod yX5_put, Cond.selects RX5 yX5_put yX5_put, Cond.code yX5_put cX5_put 7 none]
def wsX5_top : List Cond := .code yX5_top cX5_top 19 (some .int) :: ((wsX5_top_r1 ++ wsX5_top_r2) ++ wsX50)
def wsX5_whole : List Cond := .code yX5_whole cX5_whole 2 (some .boolean) :: ([.fieldLink RX5 72 "LotFlowsModel" "thrown" "I", .methodLink RX5 79 yX5_isNode, .instanceMethod yX5_isNode, .selects RX5 yX5_isNode yX5_isNode, .initialized RX5, .code yX5_isNode cX5_isNode 2 (some .boolean), .fieldLink RX5 76 "LotFlowsModel" "nodes" "I"] ++ wsX50)
def wsX5_loss : List Cond := .code yX5_loss cX5_loss 5 (some .long) :: ([.fieldLink RX5 72 "LotFlowsModel" "thrown" "I", .constantLong RX5 91 (-1), .fieldLink RX5 93 "LotFlowsModel" "count" "I", .fieldLink RX5 30 "LotFlowsModel" "froms" "[I", .fieldLink RX5 9 "LotFlowsModel" "kinds" "[I", .fieldLink RX5 33 "LotFlowsModel" "tos" "[I", .fieldLink RX5 36 "LotFlowsModel" "flows" "[J", .methodLink RX5 79 yX5_isNode, .instanceMethod yX5_isNode, .selects RX5 yX5_isNode yX5_isNode, .initialized RX5, .code yX5_isNode cX5_isNode 2 (some .boolean), .fieldLink RX5 76 "LotFlowsModel" "nodes" "I"] ++ wsX50)
def wsJ9_min_f86c9 : List Cond := .code yJ9_min_f86c9 cJ9_min_f86c9 4 (some .long) :: ([])
abbrev vwCl : List vw_C := [(RX0, TX0, 6), (RX1, TX1, 8), (RX2, TX2, 4), (RX3, TX3, 8), (RX4, TX4, 6), (RX5, TX5, 25)]
end
section
theorem dX0_init_0 : decode cX0_init 0 = .ok (.aload_n 0, 1) := by decide +kernel
theorem dX0_init_1 : decode cX0_init 1 = .ok (.invokespecial 3, 3) := by decide +kernel
theorem dX0_init_4 : decode cX0_init 4 = .ok (.aload_n 0, 1) := by decide +kernel
theorem dX0_init_5 : decode cX0_init 5 = .ok (.sipush 400, 3) := by decide +kernel
theorem dX0_init_8 : decode cX0_init 8 = .ok (.newarray .int, 2) := by decide +kernel
theorem dX0_init_10 : decode cX0_init 10 = .ok (.putfield 9, 3) := by decide +kernel
theorem dX0_init_13 : decode cX0_init 13 = .ok (.aload_n 0, 1) := by decide +kernel
theorem dX0_init_14 : decode cX0_init 14 = .ok (.sipush 400, 3) := by decide +kernel
theorem dX0_init_17 : decode cX0_init 17 = .ok (.newarray .int, 2) := by decide +kernel
theorem dX0_init_19 : decode cX0_init 19 = .ok (.putfield 15, 3) := by decide +kernel
theorem dX0_init_22 : decode cX0_init 22 = .ok (.aload_n 0, 1) := by decide +kernel
theorem dX0_init_23 : decode cX0_init 23 = .ok (.sipush 400, 3) := by decide +kernel
theorem dX0_init_26 : decode cX0_init 26 = .ok (.newarray .long, 2) := by decide +kernel
theorem dX0_init_28 : decode cX0_init 28 = .ok (.putfield 18, 3) := by decide +kernel
theorem dX0_init_31 : decode cX0_init 31 = .ok (.aload_n 0, 1) := by decide +kernel
theorem dX0_init_32 : decode cX0_init 32 = .ok (.sipush 400, 3) := by decide +kernel
theorem dX0_init_35 : decode cX0_init 35 = .ok (.newarray .long, 2) := by decide +kernel
theorem dX0_init_37 : decode cX0_init 37 = .ok (.putfield 22, 3) := by decide +kernel
theorem dX0_init_40 : decode cX0_init 40 = .ok (.aload_n 0, 1) := by decide +kernel
theorem dX0_init_41 : decode cX0_init 41 = .ok (.sipush 400, 3) := by decide +kernel
theorem dX0_init_44 : decode cX0_init 44 = .ok (.newarray .int, 2) := by decide +kernel
theorem dX0_init_46 : decode cX0_init 46 = .ok (.putfield 25, 3) := by decide +kernel
theorem dX0_init_49 : decode cX0_init 49 = .ok (.return_, 1) := by decide +kernel
theorem dX0_greatestDay_0 : decode cX0_greatestDay 0 = .ok (.aload_n 0, 1) := by decide +kernel
theorem dX0_greatestDay_1 : decode cX0_greatestDay 1 = .ok (.getfield 28, 3) := by decide +kernel
theorem dX0_greatestDay_4 : decode cX0_greatestDay 4 = .ok (.ifCond .ne 7, 3) := by decide +kernel
theorem dX0_greatestDay_7 : decode cX0_greatestDay 7 = .ok (.lconst 0, 1) := by decide +kernel
theorem dX0_greatestDay_8 : decode cX0_greatestDay 8 = .ok (.goto 19, 3) := by decide +kernel
theorem dX0_greatestDay_11 : decode cX0_greatestDay 11 = .ok (.aload_n 0, 1) := by decide +kernel
theorem dX0_greatestDay_12 : decode cX0_greatestDay 12 = .ok (.getfield 22, 3) := by decide +kernel
theorem dX0_greatestDay_15 : decode cX0_greatestDay 15 = .ok (.aload_n 0, 1) := by decide +kernel
theorem dX0_greatestDay_16 : decode cX0_greatestDay 16 = .ok (.getfield 25, 3) := by decide +kernel
theorem dX0_greatestDay_19 : decode cX0_greatestDay 19 = .ok (.aload_n 0, 1) := by decide +kernel
theorem dX0_greatestDay_20 : decode cX0_greatestDay 20 = .ok (.getfield 28, 3) := by decide +kernel
theorem dX0_greatestDay_23 : decode cX0_greatestDay 23 = .ok (.iconst 1, 1) := by decide +kernel
theorem dX0_greatestDay_24 : decode cX0_greatestDay 24 = .ok (.isub, 1) := by decide +kernel
theorem dX0_greatestDay_25 : decode cX0_greatestDay 25 = .ok (.iaload, 1) := by decide +kernel
theorem dX0_greatestDay_26 : decode cX0_greatestDay 26 = .ok (.laload, 1) := by decide +kernel
theorem dX0_greatestDay_27 : decode cX0_greatestDay 27 = .ok (.lreturn, 1) := by decide +kernel
theorem dX0_turnFor_0 : decode cX0_turnFor 0 = .ok (.aload_n 0, 1) := by decide +kernel
theorem dX0_turnFor_1 : decode cX0_turnFor 1 = .ok (.getfield 28, 3) := by decide +kernel
theorem dX0_turnFor_4 : decode cX0_turnFor 4 = .ok (.istore_n 3, 1) := by decide +kernel
theorem dX0_turnFor_5 : decode cX0_turnFor 5 = .ok (.iload_n 3, 1) := by decide +kernel
theorem dX0_turnFor_6 : decode cX0_turnFor 6 = .ok (.ifCond .le 27, 3) := by decide +kernel
theorem dX0_turnFor_9 : decode cX0_turnFor 9 = .ok (.aload_n 0, 1) := by decide +kernel
theorem dX0_turnFor_10 : decode cX0_turnFor 10 = .ok (.getfield 22, 3) := by decide +kernel
theorem dX0_turnFor_13 : decode cX0_turnFor 13 = .ok (.aload_n 0, 1) := by decide +kernel
theorem dX0_turnFor_14 : decode cX0_turnFor 14 = .ok (.getfield 25, 3) := by decide +kernel
theorem dX0_turnFor_17 : decode cX0_turnFor 17 = .ok (.iload_n 3, 1) := by decide +kernel
theorem dX0_turnFor_18 : decode cX0_turnFor 18 = .ok (.iconst 1, 1) := by decide +kernel
theorem dX0_turnFor_19 : decode cX0_turnFor 19 = .ok (.isub, 1) := by decide +kernel
theorem dX0_turnFor_20 : decode cX0_turnFor 20 = .ok (.iaload, 1) := by decide +kernel
theorem dX0_turnFor_21 : decode cX0_turnFor 21 = .ok (.laload, 1) := by decide +kernel
theorem dX0_turnFor_22 : decode cX0_turnFor 22 = .ok (.lload_n 1, 1) := by decide +kernel
theorem dX0_turnFor_23 : decode cX0_turnFor 23 = .ok (.lcmp, 1) := by decide +kernel
theorem dX0_turnFor_24 : decode cX0_turnFor 24 = .ok (.ifCond .le 9, 3) := by decide +kernel
theorem dX0_turnFor_27 : decode cX0_turnFor 27 = .ok (.iinc 3 (-1), 3) := by decide +kernel
theorem dX0_turnFor_30 : decode cX0_turnFor 30 = .ok (.goto (-25), 3) := by decide +kernel
theorem dX0_turnFor_33 : decode cX0_turnFor 33 = .ok (.iload_n 3, 1) := by decide +kernel
theorem dX0_turnFor_34 : decode cX0_turnFor 34 = .ok (.ireturn, 1) := by decide +kernel
theorem dX0_insert_0 : decode cX0_insert 0 = .ok (.aload_n 0, 1) := by decide +kernel
theorem dX0_insert_1 : decode cX0_insert 1 = .ok (.getfield 28, 3) := by decide +kernel
theorem dX0_insert_4 : decode cX0_insert 4 = .ok (.sipush 400, 3) := by decide +kernel
theorem dX0_insert_7 : decode cX0_insert 7 = .ok (.if_icmp .ge 15, 3) := by decide +kernel
theorem dX0_insert_10 : decode cX0_insert 10 = .ok (.iload_n 1, 1) := by decide +kernel
theorem dX0_insert_11 : decode cX0_insert 11 = .ok (.ifCond .lt 11, 3) := by decide +kernel
theorem dX0_insert_14 : decode cX0_insert 14 = .ok (.iload_n 1, 1) := by decide +kernel
theorem dX0_insert_15 : decode cX0_insert 15 = .ok (.aload_n 0, 1) := by decide +kernel
theorem dX0_insert_16 : decode cX0_insert 16 = .ok (.getfield 28, 3) := by decide +kernel
theorem dX0_insert_19 : decode cX0_insert 19 = .ok (.if_icmp .le 4, 3) := by decide +kernel
theorem dX0_insert_22 : decode cX0_insert 22 = .ok (.return_, 1) := by decide +kernel
theorem dX0_insert_23 : decode cX0_insert 23 = .ok (.aload_n 0, 1) := by decide +kernel
theorem dX0_insert_24 : decode cX0_insert 24 = .ok (.getfield 9, 3) := by decide +kernel
theorem dX0_insert_27 : decode cX0_insert 27 = .ok (.aload_n 0, 1) := by decide +kernel
theorem dX0_insert_28 : decode cX0_insert 28 = .ok (.getfield 28, 3) := by decide +kernel
theorem dX0_insert_31 : decode cX0_insert 31 = .ok (.iload_n 2, 1) := by decide +kernel
theorem dX0_insert_32 : decode cX0_insert 32 = .ok (.iastore, 1) := by decide +kernel
theorem dX0_insert_33 : decode cX0_insert 33 = .ok (.aload_n 0, 1) := by decide +kernel
theorem dX0_insert_34 : decode cX0_insert 34 = .ok (.getfield 15, 3) := by decide +kernel
theorem dX0_insert_37 : decode cX0_insert 37 = .ok (.aload_n 0, 1) := by decide +kernel
theorem dX0_insert_38 : decode cX0_insert 38 = .ok (.getfield 28, 3) := by decide +kernel
theorem dX0_insert_41 : decode cX0_insert 41 = .ok (.iload_n 3, 1) := by decide +kernel
theorem dX0_insert_42 : decode cX0_insert 42 = .ok (.iastore, 1) := by decide +kernel
theorem dX0_insert_43 : decode cX0_insert 43 = .ok (.aload_n 0, 1) := by decide +kernel
theorem dX0_insert_44 : decode cX0_insert 44 = .ok (.getfield 18, 3) := by decide +kernel
theorem dX0_insert_47 : decode cX0_insert 47 = .ok (.aload_n 0, 1) := by decide +kernel
theorem dX0_insert_48 : decode cX0_insert 48 = .ok (.getfield 28, 3) := by decide +kernel
theorem dX0_insert_51 : decode cX0_insert 51 = .ok (.lload 4, 2) := by decide +kernel
theorem dX0_insert_53 : decode cX0_insert 53 = .ok (.lastore, 1) := by decide +kernel
theorem dX0_insert_54 : decode cX0_insert 54 = .ok (.aload_n 0, 1) := by decide +kernel
theorem dX0_insert_55 : decode cX0_insert 55 = .ok (.getfield 22, 3) := by decide +kernel
theorem dX0_insert_58 : decode cX0_insert 58 = .ok (.aload_n 0, 1) := by decide +kernel
theorem dX0_insert_59 : decode cX0_insert 59 = .ok (.getfield 28, 3) := by decide +kernel
theorem dX0_insert_62 : decode cX0_insert 62 = .ok (.lload 6, 2) := by decide +kernel
theorem dX0_insert_64 : decode cX0_insert 64 = .ok (.lastore, 1) := by decide +kernel
theorem dX0_insert_65 : decode cX0_insert 65 = .ok (.aload_n 0, 1) := by decide +kernel
theorem dX0_insert_66 : decode cX0_insert 66 = .ok (.getfield 28, 3) := by decide +kernel
theorem dX0_insert_69 : decode cX0_insert 69 = .ok (.istore 8, 2) := by decide +kernel
theorem dX0_insert_71 : decode cX0_insert 71 = .ok (.iload 8, 2) := by decide +kernel
theorem dX0_insert_73 : decode cX0_insert 73 = .ok (.iload_n 1, 1) := by decide +kernel
theorem dX0_insert_74 : decode cX0_insert 74 = .ok (.if_icmp .le 25, 3) := by decide +kernel
theorem dX0_insert_77 : decode cX0_insert 77 = .ok (.aload_n 0, 1) := by decide +kernel
theorem dX0_insert_78 : decode cX0_insert 78 = .ok (.getfield 25, 3) := by decide +kernel
theorem dX0_insert_81 : decode cX0_insert 81 = .ok (.iload 8, 2) := by decide +kernel
theorem dX0_insert_83 : decode cX0_insert 83 = .ok (.aload_n 0, 1) := by decide +kernel
theorem dX0_insert_84 : decode cX0_insert 84 = .ok (.getfield 25, 3) := by decide +kernel
theorem dX0_insert_87 : decode cX0_insert 87 = .ok (.iload 8, 2) := by decide +kernel
theorem dX0_insert_89 : decode cX0_insert 89 = .ok (.iconst 1, 1) := by decide +kernel
theorem dX0_insert_90 : decode cX0_insert 90 = .ok (.isub, 1) := by decide +kernel
theorem dX0_insert_91 : decode cX0_insert 91 = .ok (.iaload, 1) := by decide +kernel
theorem dX0_insert_92 : decode cX0_insert 92 = .ok (.iastore, 1) := by decide +kernel
theorem dX0_insert_93 : decode cX0_insert 93 = .ok (.iinc 8 (-1), 3) := by decide +kernel
theorem dX0_insert_96 : decode cX0_insert 96 = .ok (.goto (-25), 3) := by decide +kernel
theorem dX0_insert_99 : decode cX0_insert 99 = .ok (.aload_n 0, 1) := by decide +kernel
theorem dX0_insert_100 : decode cX0_insert 100 = .ok (.getfield 25, 3) := by decide +kernel
theorem dX0_insert_103 : decode cX0_insert 103 = .ok (.iload_n 1, 1) := by decide +kernel
theorem dX0_insert_104 : decode cX0_insert 104 = .ok (.aload_n 0, 1) := by decide +kernel
theorem dX0_insert_105 : decode cX0_insert 105 = .ok (.getfield 28, 3) := by decide +kernel
theorem dX0_insert_108 : decode cX0_insert 108 = .ok (.iastore, 1) := by decide +kernel
theorem dX0_insert_109 : decode cX0_insert 109 = .ok (.aload_n 0, 1) := by decide +kernel
theorem dX0_insert_110 : decode cX0_insert 110 = .ok (.dup, 1) := by decide +kernel
theorem dX0_insert_111 : decode cX0_insert 111 = .ok (.getfield 28, 3) := by decide +kernel
theorem dX0_insert_114 : decode cX0_insert 114 = .ok (.iconst 1, 1) := by decide +kernel
theorem dX0_insert_115 : decode cX0_insert 115 = .ok (.iadd, 1) := by decide +kernel
theorem dX0_insert_116 : decode cX0_insert 116 = .ok (.putfield 28, 3) := by decide +kernel
theorem dX0_insert_119 : decode cX0_insert 119 = .ok (.return_, 1) := by decide +kernel
theorem dX0_removeNewest_0 : decode cX0_removeNewest 0 = .ok (.aload_n 0, 1) := by decide +kernel
theorem dX0_removeNewest_1 : decode cX0_removeNewest 1 = .ok (.getfield 28, 3) := by decide +kernel
theorem dX0_removeNewest_4 : decode cX0_removeNewest 4 = .ok (.ifCond .le 7, 3) := by decide +kernel
theorem dX0_removeNewest_7 : decode cX0_removeNewest 7 = .ok (.iload_n 1, 1) := by decide +kernel
theorem dX0_removeNewest_8 : decode cX0_removeNewest 8 = .ok (.ifCond .ge 4, 3) := by decide +kernel
theorem dX0_removeNewest_11 : decode cX0_removeNewest 11 = .ok (.return_, 1) := by decide +kernel
theorem dX0_removeNewest_12 : decode cX0_removeNewest 12 = .ok (.aload_n 0, 1) := by decide +kernel
theorem dX0_removeNewest_13 : decode cX0_removeNewest 13 = .ok (.dup, 1) := by decide +kernel
theorem dX0_removeNewest_14 : decode cX0_removeNewest 14 = .ok (.getfield 28, 3) := by decide +kernel
theorem dX0_removeNewest_17 : decode cX0_removeNewest 17 = .ok (.iconst 1, 1) := by decide +kernel
theorem dX0_removeNewest_18 : decode cX0_removeNewest 18 = .ok (.isub, 1) := by decide +kernel
theorem dX0_removeNewest_19 : decode cX0_removeNewest 19 = .ok (.putfield 28, 3) := by decide +kernel
theorem dX0_removeNewest_22 : decode cX0_removeNewest 22 = .ok (.iload_n 1, 1) := by decide +kernel
theorem dX0_removeNewest_23 : decode cX0_removeNewest 23 = .ok (.istore_n 2, 1) := by decide +kernel
theorem dX0_removeNewest_24 : decode cX0_removeNewest 24 = .ok (.iload_n 2, 1) := by decide +kernel
theorem dX0_removeNewest_25 : decode cX0_removeNewest 25 = .ok (.aload_n 0, 1) := by decide +kernel
theorem dX0_removeNewest_26 : decode cX0_removeNewest 26 = .ok (.getfield 28, 3) := by decide +kernel
theorem dX0_removeNewest_29 : decode cX0_removeNewest 29 = .ok (.if_icmp .ge 23, 3) := by decide +kernel
theorem dX0_removeNewest_32 : decode cX0_removeNewest 32 = .ok (.aload_n 0, 1) := by decide +kernel
theorem dX0_removeNewest_33 : decode cX0_removeNewest 33 = .ok (.getfield 25, 3) := by decide +kernel
theorem dX0_removeNewest_36 : decode cX0_removeNewest 36 = .ok (.iload_n 2, 1) := by decide +kernel
theorem dX0_removeNewest_37 : decode cX0_removeNewest 37 = .ok (.aload_n 0, 1) := by decide +kernel
theorem dX0_removeNewest_38 : decode cX0_removeNewest 38 = .ok (.getfield 25, 3) := by decide +kernel
theorem dX0_removeNewest_41 : decode cX0_removeNewest 41 = .ok (.iload_n 2, 1) := by decide +kernel
theorem dX0_removeNewest_42 : decode cX0_removeNewest 42 = .ok (.iconst 1, 1) := by decide +kernel
theorem dX0_removeNewest_43 : decode cX0_removeNewest 43 = .ok (.iadd, 1) := by decide +kernel
theorem dX0_removeNewest_44 : decode cX0_removeNewest 44 = .ok (.iaload, 1) := by decide +kernel
theorem dX0_removeNewest_45 : decode cX0_removeNewest 45 = .ok (.iastore, 1) := by decide +kernel
theorem dX0_removeNewest_46 : decode cX0_removeNewest 46 = .ok (.iinc 2 1, 3) := by decide +kernel
theorem dX0_removeNewest_49 : decode cX0_removeNewest 49 = .ok (.goto (-25), 3) := by decide +kernel
theorem dX0_removeNewest_52 : decode cX0_removeNewest 52 = .ok (.return_, 1) := by decide +kernel
theorem dX1_init_0 : decode cX1_init 0 = .ok (.aload_n 0, 1) := by decide +kernel
theorem dX1_init_1 : decode cX1_init 1 = .ok (.invokespecial 3, 3) := by decide +kernel
theorem dX1_init_4 : decode cX1_init 4 = .ok (.aload_n 0, 1) := by decide +kernel
theorem dX1_init_5 : decode cX1_init 5 = .ok (.bipush 48, 2) := by decide +kernel
theorem dX1_init_7 : decode cX1_init 7 = .ok (.newarray .int, 2) := by decide +kernel
theorem dX1_init_9 : decode cX1_init 9 = .ok (.putfield 9, 3) := by decide +kernel
theorem dX1_init_12 : decode cX1_init 12 = .ok (.aload_n 0, 1) := by decide +kernel
theorem dX1_init_13 : decode cX1_init 13 = .ok (.bipush 48, 2) := by decide +kernel
theorem dX1_init_15 : decode cX1_init 15 = .ok (.newarray .long, 2) := by decide +kernel
theorem dX1_init_17 : decode cX1_init 17 = .ok (.putfield 15, 3) := by decide +kernel
theorem dX1_init_20 : decode cX1_init 20 = .ok (.aload_n 0, 1) := by decide +kernel
theorem dX1_init_21 : decode cX1_init 21 = .ok (.bipush 48, 2) := by decide +kernel
theorem dX1_init_23 : decode cX1_init 23 = .ok (.newarray .long, 2) := by decide +kernel
theorem dX1_init_25 : decode cX1_init 25 = .ok (.putfield 19, 3) := by decide +kernel
theorem dX1_init_28 : decode cX1_init 28 = .ok (.aload_n 0, 1) := by decide +kernel
theorem dX1_init_29 : decode cX1_init 29 = .ok (.bipush 48, 2) := by decide +kernel
theorem dX1_init_31 : decode cX1_init 31 = .ok (.newarray .boolean, 2) := by decide +kernel
theorem dX1_init_33 : decode cX1_init 33 = .ok (.putfield 22, 3) := by decide +kernel
theorem dX1_init_36 : decode cX1_init 36 = .ok (.aload_n 0, 1) := by decide +kernel
theorem dX1_init_37 : decode cX1_init 37 = .ok (.bipush 48, 2) := by decide +kernel
theorem dX1_init_39 : decode cX1_init 39 = .ok (.newarray .int, 2) := by decide +kernel
theorem dX1_init_41 : decode cX1_init 41 = .ok (.putfield 26, 3) := by decide +kernel
theorem dX1_init_44 : decode cX1_init 44 = .ok (.aload_n 0, 1) := by decide +kernel
theorem dX1_init_45 : decode cX1_init 45 = .ok (.bipush 48, 2) := by decide +kernel
theorem dX1_init_47 : decode cX1_init 47 = .ok (.newarray .int, 2) := by decide +kernel
theorem dX1_init_49 : decode cX1_init 49 = .ok (.putfield 29, 3) := by decide +kernel
theorem dX1_init_52 : decode cX1_init 52 = .ok (.return_, 1) := by decide +kernel
theorem dX1_has_0 : decode cX1_has 0 = .ok (.iload_n 1, 1) := by decide +kernel
theorem dX1_has_1 : decode cX1_has 1 = .ok (.ifCond .lt 15, 3) := by decide +kernel
theorem dX1_has_4 : decode cX1_has 4 = .ok (.iload_n 1, 1) := by decide +kernel
theorem dX1_has_5 : decode cX1_has 5 = .ok (.aload_n 0, 1) := by decide +kernel
theorem dX1_has_6 : decode cX1_has 6 = .ok (.getfield 32, 3) := by decide +kernel
theorem dX1_has_9 : decode cX1_has 9 = .ok (.if_icmp .ge 7, 3) := by decide +kernel
theorem dX1_has_12 : decode cX1_has 12 = .ok (.iconst 1, 1) := by decide +kernel
theorem dX1_has_13 : decode cX1_has 13 = .ok (.goto 4, 3) := by decide +kernel
theorem dX1_has_16 : decode cX1_has 16 = .ok (.iconst 0, 1) := by decide +kernel
theorem dX1_has_17 : decode cX1_has 17 = .ok (.ireturn, 1) := by decide +kernel
theorem dX1_isLot_0 : decode cX1_isLot 0 = .ok (.aload_n 0, 1) := by decide +kernel
theorem dX1_isLot_1 : decode cX1_isLot 1 = .ok (.iload_n 1, 1) := by decide +kernel
theorem dX1_isLot_2 : decode cX1_isLot 2 = .ok (.invokevirtual 36, 3) := by decide +kernel
theorem dX1_isLot_5 : decode cX1_isLot 5 = .ok (.ifCond .eq 17, 3) := by decide +kernel
theorem dX1_isLot_8 : decode cX1_isLot 8 = .ok (.aload_n 0, 1) := by decide +kernel
theorem dX1_isLot_9 : decode cX1_isLot 9 = .ok (.getfield 9, 3) := by decide +kernel
theorem dX1_isLot_12 : decode cX1_isLot 12 = .ok (.iload_n 1, 1) := by decide +kernel
theorem dX1_isLot_13 : decode cX1_isLot 13 = .ok (.iaload, 1) := by decide +kernel
theorem dX1_isLot_14 : decode cX1_isLot 14 = .ok (.iconst 5, 1) := by decide +kernel
theorem dX1_isLot_15 : decode cX1_isLot 15 = .ok (.if_icmp .ne 7, 3) := by decide +kernel
theorem dX1_isLot_18 : decode cX1_isLot 18 = .ok (.iconst 1, 1) := by decide +kernel
theorem dX1_isLot_19 : decode cX1_isLot 19 = .ok (.goto 4, 3) := by decide +kernel
theorem dX1_isLot_22 : decode cX1_isLot 22 = .ok (.iconst 0, 1) := by decide +kernel
theorem dX1_isLot_23 : decode cX1_isLot 23 = .ok (.ireturn, 1) := by decide +kernel
theorem dX1_isDrain_0 : decode cX1_isDrain 0 = .ok (.aload_n 0, 1) := by decide +kernel
theorem dX1_isDrain_1 : decode cX1_isDrain 1 = .ok (.iload_n 1, 1) := by decide +kernel
theorem dX1_isDrain_2 : decode cX1_isDrain 2 = .ok (.invokevirtual 36, 3) := by decide +kernel
theorem dX1_isDrain_5 : decode cX1_isDrain 5 = .ok (.ifCond .eq 16, 3) := by decide +kernel
theorem dX1_isDrain_8 : decode cX1_isDrain 8 = .ok (.aload_n 0, 1) := by decide +kernel
theorem dX1_isDrain_9 : decode cX1_isDrain 9 = .ok (.getfield 9, 3) := by decide +kernel
theorem dX1_isDrain_12 : decode cX1_isDrain 12 = .ok (.iload_n 1, 1) := by decide +kernel
theorem dX1_isDrain_13 : decode cX1_isDrain 13 = .ok (.iaload, 1) := by decide +kernel
theorem dX1_isDrain_14 : decode cX1_isDrain 14 = .ok (.ifCond .ne 7, 3) := by decide +kernel
theorem dX1_isDrain_17 : decode cX1_isDrain 17 = .ok (.iconst 1, 1) := by decide +kernel
theorem dX1_isDrain_18 : decode cX1_isDrain 18 = .ok (.goto 4, 3) := by decide +kernel
theorem dX1_isDrain_21 : decode cX1_isDrain 21 = .ok (.iconst 0, 1) := by decide +kernel
theorem dX1_isDrain_22 : decode cX1_isDrain 22 = .ok (.ireturn, 1) := by decide +kernel
theorem dX1_canTake_0 : decode cX1_canTake 0 = .ok (.aload_n 0, 1) := by decide +kernel
theorem dX1_canTake_1 : decode cX1_canTake 1 = .ok (.iload_n 1, 1) := by decide +kernel
theorem dX1_canTake_2 : decode cX1_canTake 2 = .ok (.invokevirtual 36, 3) := by decide +kernel
theorem dX1_canTake_5 : decode cX1_canTake 5 = .ok (.ifCond .eq 17, 3) := by decide +kernel
theorem dX1_canTake_8 : decode cX1_canTake 8 = .ok (.aload_n 0, 1) := by decide +kernel
theorem dX1_canTake_9 : decode cX1_canTake 9 = .ok (.getfield 9, 3) := by decide +kernel
theorem dX1_canTake_12 : decode cX1_canTake 12 = .ok (.iload_n 1, 1) := by decide +kernel
theorem dX1_canTake_13 : decode cX1_canTake 13 = .ok (.iaload, 1) := by decide +kernel
theorem dX1_canTake_14 : decode cX1_canTake 14 = .ok (.iconst 5, 1) := by decide +kernel
theorem dX1_canTake_15 : decode cX1_canTake 15 = .ok (.if_icmp .eq 7, 3) := by decide +kernel
theorem dX1_canTake_18 : decode cX1_canTake 18 = .ok (.iconst 1, 1) := by decide +kernel
theorem dX1_canTake_19 : decode cX1_canTake 19 = .ok (.goto 4, 3) := by decide +kernel
theorem dX1_canTake_22 : decode cX1_canTake 22 = .ok (.iconst 0, 1) := by decide +kernel
theorem dX1_canTake_23 : decode cX1_canTake 23 = .ok (.ireturn, 1) := by decide +kernel
theorem dX1_add_0 : decode cX1_add 0 = .ok (.aload_n 0, 1) := by decide +kernel
theorem dX1_add_1 : decode cX1_add 1 = .ok (.getfield 32, 3) := by decide +kernel
theorem dX1_add_4 : decode cX1_add 4 = .ok (.bipush 48, 2) := by decide +kernel
theorem dX1_add_6 : decode cX1_add 6 = .ok (.if_icmp .lt 6, 3) := by decide +kernel
theorem dX1_add_9 : decode cX1_add 9 = .ok (.bipush (-2), 2) := by decide +kernel
theorem dX1_add_11 : decode cX1_add 11 = .ok (.ireturn, 1) := by decide +kernel
theorem dX1_add_12 : decode cX1_add 12 = .ok (.aload_n 0, 1) := by decide +kernel
theorem dX1_add_13 : decode cX1_add 13 = .ok (.getfield 9, 3) := by decide +kernel
theorem dX1_add_16 : decode cX1_add 16 = .ok (.aload_n 0, 1) := by decide +kernel
theorem dX1_add_17 : decode cX1_add 17 = .ok (.getfield 32, 3) := by decide +kernel
theorem dX1_add_20 : decode cX1_add 20 = .ok (.iload_n 1, 1) := by decide +kernel
theorem dX1_add_21 : decode cX1_add 21 = .ok (.iastore, 1) := by decide +kernel
theorem dX1_add_22 : decode cX1_add 22 = .ok (.aload_n 0, 1) := by decide +kernel
theorem dX1_add_23 : decode cX1_add 23 = .ok (.getfield 26, 3) := by decide +kernel
theorem dX1_add_26 : decode cX1_add 26 = .ok (.aload_n 0, 1) := by decide +kernel
theorem dX1_add_27 : decode cX1_add 27 = .ok (.getfield 32, 3) := by decide +kernel
theorem dX1_add_30 : decode cX1_add 30 = .ok (.iconst (-1), 1) := by decide +kernel
theorem dX1_add_31 : decode cX1_add 31 = .ok (.iastore, 1) := by decide +kernel
theorem dX1_add_32 : decode cX1_add 32 = .ok (.aload_n 0, 1) := by decide +kernel
theorem dX1_add_33 : decode cX1_add 33 = .ok (.dup, 1) := by decide +kernel
theorem dX1_add_34 : decode cX1_add 34 = .ok (.getfield 32, 3) := by decide +kernel
theorem dX1_add_37 : decode cX1_add 37 = .ok (.iconst 1, 1) := by decide +kernel
theorem dX1_add_38 : decode cX1_add 38 = .ok (.iadd, 1) := by decide +kernel
theorem dX1_add_39 : decode cX1_add 39 = .ok (.putfield 32, 3) := by decide +kernel
theorem dX1_add_42 : decode cX1_add 42 = .ok (.aload_n 0, 1) := by decide +kernel
theorem dX1_add_43 : decode cX1_add 43 = .ok (.getfield 32, 3) := by decide +kernel
theorem dX1_add_46 : decode cX1_add 46 = .ok (.iconst 1, 1) := by decide +kernel
theorem dX1_add_47 : decode cX1_add 47 = .ok (.isub, 1) := by decide +kernel
theorem dX1_add_48 : decode cX1_add 48 = .ok (.ireturn, 1) := by decide +kernel
theorem dX1_addLot_0 : decode cX1_addLot 0 = .ok (.aload_n 0, 1) := by decide +kernel
theorem dX1_addLot_1 : decode cX1_addLot 1 = .ok (.iconst 5, 1) := by decide +kernel
theorem dX1_addLot_2 : decode cX1_addLot 2 = .ok (.invokevirtual 40, 3) := by decide +kernel
theorem dX1_addLot_5 : decode cX1_addLot 5 = .ok (.istore 5, 2) := by decide +kernel
theorem dX1_addLot_7 : decode cX1_addLot 7 = .ok (.iload 5, 2) := by decide +kernel
theorem dX1_addLot_9 : decode cX1_addLot 9 = .ok (.ifCond .ge 6, 3) := by decide +kernel
theorem dX1_addLot_12 : decode cX1_addLot 12 = .ok (.iload 5, 2) := by decide +kernel
theorem dX1_addLot_14 : decode cX1_addLot 14 = .ok (.ireturn, 1) := by decide +kernel
theorem dX1_addLot_15 : decode cX1_addLot 15 = .ok (.aload_n 0, 1) := by decide +kernel
theorem dX1_addLot_16 : decode cX1_addLot 16 = .ok (.getfield 15, 3) := by decide +kernel
theorem dX1_addLot_19 : decode cX1_addLot 19 = .ok (.iload 5, 2) := by decide +kernel
theorem dX1_addLot_21 : decode cX1_addLot 21 = .ok (.lload_n 1, 1) := by decide +kernel
theorem dX1_addLot_22 : decode cX1_addLot 22 = .ok (.lastore, 1) := by decide +kernel
theorem dX1_addLot_23 : decode cX1_addLot 23 = .ok (.aload_n 0, 1) := by decide +kernel
theorem dX1_addLot_24 : decode cX1_addLot 24 = .ok (.getfield 19, 3) := by decide +kernel
theorem dX1_addLot_27 : decode cX1_addLot 27 = .ok (.iload 5, 2) := by decide +kernel
theorem dX1_addLot_29 : decode cX1_addLot 29 = .ok (.lload_n 3, 1) := by decide +kernel
theorem dX1_addLot_30 : decode cX1_addLot 30 = .ok (.lastore, 1) := by decide +kernel
theorem dX1_addLot_31 : decode cX1_addLot 31 = .ok (.aload_n 0, 1) := by decide +kernel
theorem dX1_addLot_32 : decode cX1_addLot 32 = .ok (.getfield 44, 3) := by decide +kernel
theorem dX1_addLot_35 : decode cX1_addLot 35 = .ok (.istore 6, 2) := by decide +kernel
theorem dX1_addLot_37 : decode cX1_addLot 37 = .ok (.iload 6, 2) := by decide +kernel
theorem dX1_addLot_39 : decode cX1_addLot 39 = .ok (.ifCond .le 44, 3) := by decide +kernel
theorem dX1_addLot_42 : decode cX1_addLot 42 = .ok (.aload_n 0, 1) := by decide +kernel
theorem dX1_addLot_43 : decode cX1_addLot 43 = .ok (.getfield 19, 3) := by decide +kernel
theorem dX1_addLot_46 : decode cX1_addLot 46 = .ok (.aload_n 0, 1) := by decide +kernel
theorem dX1_addLot_47 : decode cX1_addLot 47 = .ok (.getfield 29, 3) := by decide +kernel
theorem dX1_addLot_50 : decode cX1_addLot 50 = .ok (.iload 6, 2) := by decide +kernel
theorem dX1_addLot_52 : decode cX1_addLot 52 = .ok (.iconst 1, 1) := by decide +kernel
theorem dX1_addLot_53 : decode cX1_addLot 53 = .ok (.isub, 1) := by decide +kernel
theorem dX1_addLot_54 : decode cX1_addLot 54 = .ok (.iaload, 1) := by decide +kernel
theorem dX1_addLot_55 : decode cX1_addLot 55 = .ok (.laload, 1) := by decide +kernel
theorem dX1_addLot_56 : decode cX1_addLot 56 = .ok (.lload_n 3, 1) := by decide +kernel
theorem dX1_addLot_57 : decode cX1_addLot 57 = .ok (.lcmp, 1) := by decide +kernel
theorem dX1_addLot_58 : decode cX1_addLot 58 = .ok (.ifCond .le 25, 3) := by decide +kernel
theorem dX1_addLot_61 : decode cX1_addLot 61 = .ok (.aload_n 0, 1) := by decide +kernel
theorem dX1_addLot_62 : decode cX1_addLot 62 = .ok (.getfield 29, 3) := by decide +kernel
theorem dX1_addLot_65 : decode cX1_addLot 65 = .ok (.iload 6, 2) := by decide +kernel
theorem dX1_addLot_67 : decode cX1_addLot 67 = .ok (.aload_n 0, 1) := by decide +kernel
theorem dX1_addLot_68 : decode cX1_addLot 68 = .ok (.getfield 29, 3) := by decide +kernel
theorem dX1_addLot_71 : decode cX1_addLot 71 = .ok (.iload 6, 2) := by decide +kernel
theorem dX1_addLot_73 : decode cX1_addLot 73 = .ok (.iconst 1, 1) := by decide +kernel
theorem dX1_addLot_74 : decode cX1_addLot 74 = .ok (.isub, 1) := by decide +kernel
theorem dX1_addLot_75 : decode cX1_addLot 75 = .ok (.iaload, 1) := by decide +kernel
theorem dX1_addLot_76 : decode cX1_addLot 76 = .ok (.iastore, 1) := by decide +kernel
theorem dX1_addLot_77 : decode cX1_addLot 77 = .ok (.iinc 6 (-1), 3) := by decide +kernel
theorem dX1_addLot_80 : decode cX1_addLot 80 = .ok (.goto (-43), 3) := by decide +kernel
theorem dX1_addLot_83 : decode cX1_addLot 83 = .ok (.aload_n 0, 1) := by decide +kernel
theorem dX1_addLot_84 : decode cX1_addLot 84 = .ok (.getfield 29, 3) := by decide +kernel
theorem dX1_addLot_87 : decode cX1_addLot 87 = .ok (.iload 6, 2) := by decide +kernel
theorem dX1_addLot_89 : decode cX1_addLot 89 = .ok (.iload 5, 2) := by decide +kernel
theorem dX1_addLot_91 : decode cX1_addLot 91 = .ok (.iastore, 1) := by decide +kernel
theorem dX1_addLot_92 : decode cX1_addLot 92 = .ok (.aload_n 0, 1) := by decide +kernel
theorem dX1_addLot_93 : decode cX1_addLot 93 = .ok (.dup, 1) := by decide +kernel
theorem dX1_addLot_94 : decode cX1_addLot 94 = .ok (.getfield 44, 3) := by decide +kernel
theorem dX1_addLot_97 : decode cX1_addLot 97 = .ok (.iconst 1, 1) := by decide +kernel
theorem dX1_addLot_98 : decode cX1_addLot 98 = .ok (.iadd, 1) := by decide +kernel
theorem dX1_addLot_99 : decode cX1_addLot 99 = .ok (.putfield 44, 3) := by decide +kernel
theorem dX1_addLot_102 : decode cX1_addLot 102 = .ok (.iload 5, 2) := by decide +kernel
theorem dX1_addLot_104 : decode cX1_addLot 104 = .ok (.ireturn, 1) := by decide +kernel
theorem dX2_init_0 : decode cX2_init 0 = .ok (.aload_n 0, 1) := by decide +kernel
theorem dX2_init_1 : decode cX2_init 1 = .ok (.invokespecial 3, 3) := by decide +kernel
theorem dX2_init_4 : decode cX2_init 4 = .ok (.aload_n 0, 1) := by decide +kernel
theorem dX2_init_5 : decode cX2_init 5 = .ok (.bipush 48, 2) := by decide +kernel
theorem dX2_init_7 : decode cX2_init 7 = .ok (.newarray .int, 2) := by decide +kernel
theorem dX2_init_9 : decode cX2_init 9 = .ok (.putfield 9, 3) := by decide +kernel
theorem dX2_init_12 : decode cX2_init 12 = .ok (.aload_n 0, 1) := by decide +kernel
theorem dX2_init_13 : decode cX2_init 13 = .ok (.bipush 48, 2) := by decide +kernel
theorem dX2_init_15 : decode cX2_init 15 = .ok (.newarray .long, 2) := by decide +kernel
theorem dX2_init_17 : decode cX2_init 17 = .ok (.putfield 15, 3) := by decide +kernel
theorem dX2_init_20 : decode cX2_init 20 = .ok (.aload_n 0, 1) := by decide +kernel
theorem dX2_init_21 : decode cX2_init 21 = .ok (.bipush 48, 2) := by decide +kernel
theorem dX2_init_23 : decode cX2_init 23 = .ok (.newarray .int, 2) := by decide +kernel
theorem dX2_init_25 : decode cX2_init 25 = .ok (.putfield 19, 3) := by decide +kernel
theorem dX2_init_28 : decode cX2_init 28 = .ok (.return_, 1) := by decide +kernel
theorem dX2_enter_0 : decode cX2_enter 0 = .ok (.iconst 0, 1) := by decide +kernel
theorem dX2_enter_1 : decode cX2_enter 1 = .ok (.istore 4, 2) := by decide +kernel
theorem dX2_enter_3 : decode cX2_enter 3 = .ok (.iload 4, 2) := by decide +kernel
theorem dX2_enter_5 : decode cX2_enter 5 = .ok (.aload_n 0, 1) := by decide +kernel
theorem dX2_enter_6 : decode cX2_enter 6 = .ok (.getfield 22, 3) := by decide +kernel
theorem dX2_enter_9 : decode cX2_enter 9 = .ok (.if_icmp .ge 20, 3) := by decide +kernel
theorem dX2_enter_12 : decode cX2_enter 12 = .ok (.aload_n 0, 1) := by decide +kernel
theorem dX2_enter_13 : decode cX2_enter 13 = .ok (.getfield 9, 3) := by decide +kernel
theorem dX2_enter_16 : decode cX2_enter 16 = .ok (.iload 4, 2) := by decide +kernel
theorem dX2_enter_18 : decode cX2_enter 18 = .ok (.iaload, 1) := by decide +kernel
theorem dX2_enter_19 : decode cX2_enter 19 = .ok (.iload_n 1, 1) := by decide +kernel
theorem dX2_enter_20 : decode cX2_enter 20 = .ok (.if_icmp .ge 9, 3) := by decide +kernel
theorem dX2_enter_23 : decode cX2_enter 23 = .ok (.iinc 4 1, 3) := by decide +kernel
theorem dX2_enter_26 : decode cX2_enter 26 = .ok (.goto (-23), 3) := by decide +kernel
theorem dX2_enter_29 : decode cX2_enter 29 = .ok (.iload 4, 2) := by decide +kernel
theorem dX2_enter_31 : decode cX2_enter 31 = .ok (.aload_n 0, 1) := by decide +kernel
theorem dX2_enter_32 : decode cX2_enter 32 = .ok (.getfield 22, 3) := by decide +kernel
theorem dX2_enter_35 : decode cX2_enter 35 = .ok (.if_icmp .ge 39, 3) := by decide +kernel
theorem dX2_enter_38 : decode cX2_enter 38 = .ok (.aload_n 0, 1) := by decide +kernel
theorem dX2_enter_39 : decode cX2_enter 39 = .ok (.getfield 9, 3) := by decide +kernel
theorem dX2_enter_42 : decode cX2_enter 42 = .ok (.iload 4, 2) := by decide +kernel
theorem dX2_enter_44 : decode cX2_enter 44 = .ok (.iaload, 1) := by decide +kernel
theorem dX2_enter_45 : decode cX2_enter 45 = .ok (.iload_n 1, 1) := by decide +kernel
theorem dX2_enter_46 : decode cX2_enter 46 = .ok (.if_icmp .ne 28, 3) := by decide +kernel
theorem dX2_enter_49 : decode cX2_enter 49 = .ok (.aload_n 0, 1) := by decide +kernel
theorem dX2_enter_50 : decode cX2_enter 50 = .ok (.getfield 15, 3) := by decide +kernel
theorem dX2_enter_53 : decode cX2_enter 53 = .ok (.iload 4, 2) := by decide +kernel
theorem dX2_enter_55 : decode cX2_enter 55 = .ok (.dup2, 1) := by decide +kernel
theorem dX2_enter_56 : decode cX2_enter 56 = .ok (.laload, 1) := by decide +kernel
theorem dX2_enter_57 : decode cX2_enter 57 = .ok (.lload_n 2, 1) := by decide +kernel
theorem dX2_enter_58 : decode cX2_enter 58 = .ok (.ladd, 1) := by decide +kernel
theorem dX2_enter_59 : decode cX2_enter 59 = .ok (.lastore, 1) := by decide +kernel
theorem dX2_enter_60 : decode cX2_enter 60 = .ok (.aload_n 0, 1) := by decide +kernel
theorem dX2_enter_61 : decode cX2_enter 61 = .ok (.getfield 19, 3) := by decide +kernel
theorem dX2_enter_64 : decode cX2_enter 64 = .ok (.iload 4, 2) := by decide +kernel
theorem dX2_enter_66 : decode cX2_enter 66 = .ok (.dup2, 1) := by decide +kernel
theorem dX2_enter_67 : decode cX2_enter 67 = .ok (.iaload, 1) := by decide +kernel
theorem dX2_enter_68 : decode cX2_enter 68 = .ok (.iconst 1, 1) := by decide +kernel
theorem dX2_enter_69 : decode cX2_enter 69 = .ok (.iadd, 1) := by decide +kernel
theorem dX2_enter_70 : decode cX2_enter 70 = .ok (.iastore, 1) := by decide +kernel
theorem dX2_enter_71 : decode cX2_enter 71 = .ok (.goto 11, 3) := by decide +kernel
theorem dX2_enter_74 : decode cX2_enter 74 = .ok (.aload_n 0, 1) := by decide +kernel
theorem dX2_enter_75 : decode cX2_enter 75 = .ok (.iload 4, 2) := by decide +kernel
theorem dX2_enter_77 : decode cX2_enter 77 = .ok (.iload_n 1, 1) := by decide +kernel
theorem dX2_enter_78 : decode cX2_enter 78 = .ok (.lload_n 2, 1) := by decide +kernel
theorem dX2_enter_79 : decode cX2_enter 79 = .ok (.invokevirtual 26, 3) := by decide +kernel
theorem dX2_enter_82 : decode cX2_enter 82 = .ok (.return_, 1) := by decide +kernel
theorem dX2_insert_0 : decode cX2_insert 0 = .ok (.aload_n 0, 1) := by decide +kernel
theorem dX2_insert_1 : decode cX2_insert 1 = .ok (.getfield 22, 3) := by decide +kernel
theorem dX2_insert_4 : decode cX2_insert 4 = .ok (.bipush 48, 2) := by decide +kernel
theorem dX2_insert_6 : decode cX2_insert 6 = .ok (.if_icmp .lt 4, 3) := by decide +kernel
theorem dX2_insert_9 : decode cX2_insert 9 = .ok (.return_, 1) := by decide +kernel
theorem dX2_insert_10 : decode cX2_insert 10 = .ok (.aload_n 0, 1) := by decide +kernel
theorem dX2_insert_11 : decode cX2_insert 11 = .ok (.getfield 22, 3) := by decide +kernel
theorem dX2_insert_14 : decode cX2_insert 14 = .ok (.istore 5, 2) := by decide +kernel
theorem dX2_insert_16 : decode cX2_insert 16 = .ok (.iload 5, 2) := by decide +kernel
theorem dX2_insert_18 : decode cX2_insert 18 = .ok (.iload_n 1, 1) := by decide +kernel
theorem dX2_insert_19 : decode cX2_insert 19 = .ok (.if_icmp .le 57, 3) := by decide +kernel
theorem dX2_insert_22 : decode cX2_insert 22 = .ok (.aload_n 0, 1) := by decide +kernel
theorem dX2_insert_23 : decode cX2_insert 23 = .ok (.getfield 9, 3) := by decide +kernel
theorem dX2_insert_26 : decode cX2_insert 26 = .ok (.iload 5, 2) := by decide +kernel
theorem dX2_insert_28 : decode cX2_insert 28 = .ok (.aload_n 0, 1) := by decide +kernel
theorem dX2_insert_29 : decode cX2_insert 29 = .ok (.getfield 9, 3) := by decide +kernel
theorem dX2_insert_32 : decode cX2_insert 32 = .ok (.iload 5, 2) := by decide +kernel
theorem dX2_insert_34 : decode cX2_insert 34 = .ok (.iconst 1, 1) := by decide +kernel
theorem dX2_insert_35 : decode cX2_insert 35 = .ok (.isub, 1) := by decide +kernel
theorem dX2_insert_36 : decode cX2_insert 36 = .ok (.iaload, 1) := by decide +kernel
theorem dX2_insert_37 : decode cX2_insert 37 = .ok (.iastore, 1) := by decide +kernel
theorem dX2_insert_38 : decode cX2_insert 38 = .ok (.aload_n 0, 1) := by decide +kernel
theorem dX2_insert_39 : decode cX2_insert 39 = .ok (.getfield 15, 3) := by decide +kernel
theorem dX2_insert_42 : decode cX2_insert 42 = .ok (.iload 5, 2) := by decide +kernel
theorem dX2_insert_44 : decode cX2_insert 44 = .ok (.aload_n 0, 1) := by decide +kernel
theorem dX2_insert_45 : decode cX2_insert 45 = .ok (.getfield 15, 3) := by decide +kernel
theorem dX2_insert_48 : decode cX2_insert 48 = .ok (.iload 5, 2) := by decide +kernel
theorem dX2_insert_50 : decode cX2_insert 50 = .ok (.iconst 1, 1) := by decide +kernel
theorem dX2_insert_51 : decode cX2_insert 51 = .ok (.isub, 1) := by decide +kernel
theorem dX2_insert_52 : decode cX2_insert 52 = .ok (.laload, 1) := by decide +kernel
theorem dX2_insert_53 : decode cX2_insert 53 = .ok (.lastore, 1) := by decide +kernel
theorem dX2_insert_54 : decode cX2_insert 54 = .ok (.aload_n 0, 1) := by decide +kernel
theorem dX2_insert_55 : decode cX2_insert 55 = .ok (.getfield 19, 3) := by decide +kernel
theorem dX2_insert_58 : decode cX2_insert 58 = .ok (.iload 5, 2) := by decide +kernel
theorem dX2_insert_60 : decode cX2_insert 60 = .ok (.aload_n 0, 1) := by decide +kernel
theorem dX2_insert_61 : decode cX2_insert 61 = .ok (.getfield 19, 3) := by decide +kernel
theorem dX2_insert_64 : decode cX2_insert 64 = .ok (.iload 5, 2) := by decide +kernel
theorem dX2_insert_66 : decode cX2_insert 66 = .ok (.iconst 1, 1) := by decide +kernel
theorem dX2_insert_67 : decode cX2_insert 67 = .ok (.isub, 1) := by decide +kernel
theorem dX2_insert_68 : decode cX2_insert 68 = .ok (.iaload, 1) := by decide +kernel
theorem dX2_insert_69 : decode cX2_insert 69 = .ok (.iastore, 1) := by decide +kernel
theorem dX2_insert_70 : decode cX2_insert 70 = .ok (.iinc 5 (-1), 3) := by decide +kernel
theorem dX2_insert_73 : decode cX2_insert 73 = .ok (.goto (-57), 3) := by decide +kernel
theorem dX2_insert_76 : decode cX2_insert 76 = .ok (.aload_n 0, 1) := by decide +kernel
theorem dX2_insert_77 : decode cX2_insert 77 = .ok (.getfield 9, 3) := by decide +kernel
theorem dX2_insert_80 : decode cX2_insert 80 = .ok (.iload_n 1, 1) := by decide +kernel
theorem dX2_insert_81 : decode cX2_insert 81 = .ok (.iload_n 2, 1) := by decide +kernel
theorem dX2_insert_82 : decode cX2_insert 82 = .ok (.iastore, 1) := by decide +kernel
theorem dX2_insert_83 : decode cX2_insert 83 = .ok (.aload_n 0, 1) := by decide +kernel
theorem dX2_insert_84 : decode cX2_insert 84 = .ok (.getfield 15, 3) := by decide +kernel
theorem dX2_insert_87 : decode cX2_insert 87 = .ok (.iload_n 1, 1) := by decide +kernel
theorem dX2_insert_88 : decode cX2_insert 88 = .ok (.lload_n 3, 1) := by decide +kernel
theorem dX2_insert_89 : decode cX2_insert 89 = .ok (.lastore, 1) := by decide +kernel
theorem dX2_insert_90 : decode cX2_insert 90 = .ok (.aload_n 0, 1) := by decide +kernel
theorem dX2_insert_91 : decode cX2_insert 91 = .ok (.getfield 19, 3) := by decide +kernel
theorem dX2_insert_94 : decode cX2_insert 94 = .ok (.iload_n 1, 1) := by decide +kernel
theorem dX2_insert_95 : decode cX2_insert 95 = .ok (.iconst 1, 1) := by decide +kernel
theorem dX2_insert_96 : decode cX2_insert 96 = .ok (.iastore, 1) := by decide +kernel
theorem dX2_insert_97 : decode cX2_insert 97 = .ok (.aload_n 0, 1) := by decide +kernel
theorem dX2_insert_98 : decode cX2_insert 98 = .ok (.dup, 1) := by decide +kernel
theorem dX2_insert_99 : decode cX2_insert 99 = .ok (.getfield 22, 3) := by decide +kernel
theorem dX2_insert_102 : decode cX2_insert 102 = .ok (.iconst 1, 1) := by decide +kernel
theorem dX2_insert_103 : decode cX2_insert 103 = .ok (.iadd, 1) := by decide +kernel
theorem dX2_insert_104 : decode cX2_insert 104 = .ok (.putfield 22, 3) := by decide +kernel
theorem dX2_insert_107 : decode cX2_insert 107 = .ok (.return_, 1) := by decide +kernel
theorem dX3_init_0 : decode cX3_init 0 = .ok (.aload_n 0, 1) := by decide +kernel
theorem dX3_init_1 : decode cX3_init 1 = .ok (.invokespecial 3, 3) := by decide +kernel
theorem dX3_init_4 : decode cX3_init 4 = .ok (.aload_n 0, 1) := by decide +kernel
theorem dX3_init_5 : decode cX3_init 5 = .ok (.sipush 2304, 3) := by decide +kernel
theorem dX3_init_8 : decode cX3_init 8 = .ok (.newarray .long, 2) := by decide +kernel
theorem dX3_init_10 : decode cX3_init 10 = .ok (.putfield 9, 3) := by decide +kernel
theorem dX3_init_13 : decode cX3_init 13 = .ok (.aload_n 0, 1) := by decide +kernel
theorem dX3_init_14 : decode cX3_init 14 = .ok (.bipush 48, 2) := by decide +kernel
theorem dX3_init_16 : decode cX3_init 16 = .ok (.newarray .long, 2) := by decide +kernel
theorem dX3_init_18 : decode cX3_init 18 = .ok (.putfield 15, 3) := by decide +kernel
theorem dX3_init_21 : decode cX3_init 21 = .ok (.aload_n 0, 1) := by decide +kernel
theorem dX3_init_22 : decode cX3_init 22 = .ok (.bipush 48, 2) := by decide +kernel
theorem dX3_init_24 : decode cX3_init 24 = .ok (.newarray .long, 2) := by decide +kernel
theorem dX3_init_26 : decode cX3_init 26 = .ok (.putfield 18, 3) := by decide +kernel
theorem dX3_init_29 : decode cX3_init 29 = .ok (.aload_n 0, 1) := by decide +kernel
theorem dX3_init_30 : decode cX3_init 30 = .ok (.bipush 48, 2) := by decide +kernel
theorem dX3_init_32 : decode cX3_init 32 = .ok (.newarray .long, 2) := by decide +kernel
theorem dX3_init_34 : decode cX3_init 34 = .ok (.putfield 21, 3) := by decide +kernel
theorem dX3_init_37 : decode cX3_init 37 = .ok (.aload_n 0, 1) := by decide +kernel
theorem dX3_init_38 : decode cX3_init 38 = .ok (.bipush 48, 2) := by decide +kernel
theorem dX3_init_40 : decode cX3_init 40 = .ok (.newarray .long, 2) := by decide +kernel
theorem dX3_init_42 : decode cX3_init 42 = .ok (.putfield 24, 3) := by decide +kernel
theorem dX3_init_45 : decode cX3_init 45 = .ok (.aload_n 0, 1) := by decide +kernel
theorem dX3_init_46 : decode cX3_init 46 = .ok (.bipush 48, 2) := by decide +kernel
theorem dX3_init_48 : decode cX3_init 48 = .ok (.newarray .long, 2) := by decide +kernel
theorem dX3_init_50 : decode cX3_init 50 = .ok (.putfield 27, 3) := by decide +kernel
theorem dX3_init_53 : decode cX3_init 53 = .ok (.aload_n 0, 1) := by decide +kernel
theorem dX3_init_54 : decode cX3_init 54 = .ok (.bipush 48, 2) := by decide +kernel
theorem dX3_init_56 : decode cX3_init 56 = .ok (.newarray .long, 2) := by decide +kernel
theorem dX3_init_58 : decode cX3_init 58 = .ok (.putfield 30, 3) := by decide +kernel
theorem dX3_init_61 : decode cX3_init 61 = .ok (.aload_n 0, 1) := by decide +kernel
theorem dX3_init_62 : decode cX3_init 62 = .ok (.aload_n 1, 1) := by decide +kernel
theorem dX3_init_63 : decode cX3_init 63 = .ok (.putfield 33, 3) := by decide +kernel
theorem dX3_init_66 : decode cX3_init 66 = .ok (.return_, 1) := by decide +kernel
theorem dX3_unitsIn_0 : decode cX3_unitsIn 0 = .ok (.aload_n 0, 1) := by decide +kernel
theorem dX3_unitsIn_1 : decode cX3_unitsIn 1 = .ok (.getfield 15, 3) := by decide +kernel
theorem dX3_unitsIn_4 : decode cX3_unitsIn 4 = .ok (.iload_n 1, 1) := by decide +kernel
theorem dX3_unitsIn_5 : decode cX3_unitsIn 5 = .ok (.laload, 1) := by decide +kernel
theorem dX3_unitsIn_6 : decode cX3_unitsIn 6 = .ok (.aload_n 0, 1) := by decide +kernel
theorem dX3_unitsIn_7 : decode cX3_unitsIn 7 = .ok (.getfield 18, 3) := by decide +kernel
theorem dX3_unitsIn_10 : decode cX3_unitsIn 10 = .ok (.iload_n 1, 1) := by decide +kernel
theorem dX3_unitsIn_11 : decode cX3_unitsIn 11 = .ok (.laload, 1) := by decide +kernel
theorem dX3_unitsIn_12 : decode cX3_unitsIn 12 = .ok (.lsub, 1) := by decide +kernel
theorem dX3_unitsIn_13 : decode cX3_unitsIn 13 = .ok (.lreturn, 1) := by decide +kernel
theorem dX3_unitsOf_0 : decode cX3_unitsOf 0 = .ok (.aload_n 0, 1) := by decide +kernel
theorem dX3_unitsOf_1 : decode cX3_unitsOf 1 = .ok (.getfield 9, 3) := by decide +kernel
theorem dX3_unitsOf_4 : decode cX3_unitsOf 4 = .ok (.iload_n 1, 1) := by decide +kernel
theorem dX3_unitsOf_5 : decode cX3_unitsOf 5 = .ok (.bipush 48, 2) := by decide +kernel
theorem dX3_unitsOf_7 : decode cX3_unitsOf 7 = .ok (.imul, 1) := by decide +kernel
theorem dX3_unitsOf_8 : decode cX3_unitsOf 8 = .ok (.iload_n 2, 1) := by decide +kernel
theorem dX3_unitsOf_9 : decode cX3_unitsOf 9 = .ok (.iadd, 1) := by decide +kernel
theorem dX3_unitsOf_10 : decode cX3_unitsOf 10 = .ok (.laload, 1) := by decide +kernel
theorem dX3_unitsOf_11 : decode cX3_unitsOf 11 = .ok (.lreturn, 1) := by decide +kernel
theorem dX3_hasReached_0 : decode cX3_hasReached 0 = .ok (.aload_n 0, 1) := by decide +kernel
theorem dX3_hasReached_1 : decode cX3_hasReached 1 = .ok (.getfield 24, 3) := by decide +kernel
theorem dX3_hasReached_4 : decode cX3_hasReached 4 = .ok (.iload_n 2, 1) := by decide +kernel
theorem dX3_hasReached_5 : decode cX3_hasReached 5 = .ok (.laload, 1) := by decide +kernel
theorem dX3_hasReached_6 : decode cX3_hasReached 6 = .ok (.lconst 1, 1) := by decide +kernel
theorem dX3_hasReached_7 : decode cX3_hasReached 7 = .ok (.iload_n 1, 1) := by decide +kernel
theorem dX3_hasReached_8 : decode cX3_hasReached 8 = .ok (.lshl, 1) := by decide +kernel
theorem dX3_hasReached_9 : decode cX3_hasReached 9 = .ok (.land, 1) := by decide +kernel
theorem dX3_hasReached_10 : decode cX3_hasReached 10 = .ok (.lconst 0, 1) := by decide +kernel
theorem dX3_hasReached_11 : decode cX3_hasReached 11 = .ok (.lcmp, 1) := by decide +kernel
theorem dX3_hasReached_12 : decode cX3_hasReached 12 = .ok (.ifCond .eq 7, 3) := by decide +kernel
theorem dX3_hasReached_15 : decode cX3_hasReached 15 = .ok (.iconst 1, 1) := by decide +kernel
theorem dX3_hasReached_16 : decode cX3_hasReached 16 = .ok (.goto 4, 3) := by decide +kernel
theorem dX3_hasReached_19 : decode cX3_hasReached 19 = .ok (.iconst 0, 1) := by decide +kernel
theorem dX3_hasReached_20 : decode cX3_hasReached 20 = .ok (.ireturn, 1) := by decide +kernel
theorem dX3_sumOfLots_0 : decode cX3_sumOfLots 0 = .ok (.lconst 0, 1) := by decide +kernel
theorem dX3_sumOfLots_1 : decode cX3_sumOfLots 1 = .ok (.lstore_n 2, 1) := by decide +kernel
theorem dX3_sumOfLots_2 : decode cX3_sumOfLots 2 = .ok (.iconst 0, 1) := by decide +kernel
theorem dX3_sumOfLots_3 : decode cX3_sumOfLots 3 = .ok (.istore 4, 2) := by decide +kernel
theorem dX3_sumOfLots_5 : decode cX3_sumOfLots 5 = .ok (.iload 4, 2) := by decide +kernel
theorem dX3_sumOfLots_7 : decode cX3_sumOfLots 7 = .ok (.aload_n 0, 1) := by decide +kernel
theorem dX3_sumOfLots_8 : decode cX3_sumOfLots 8 = .ok (.getfield 33, 3) := by decide +kernel
theorem dX3_sumOfLots_11 : decode cX3_sumOfLots 11 = .ok (.getfield 37, 3) := by decide +kernel
theorem dX3_sumOfLots_14 : decode cX3_sumOfLots 14 = .ok (.if_icmp .ge 19, 3) := by decide +kernel
theorem dX3_sumOfLots_17 : decode cX3_sumOfLots 17 = .ok (.lload_n 2, 1) := by decide +kernel
theorem dX3_sumOfLots_18 : decode cX3_sumOfLots 18 = .ok (.aload_n 0, 1) := by decide +kernel
theorem dX3_sumOfLots_19 : decode cX3_sumOfLots 19 = .ok (.iload_n 1, 1) := by decide +kernel
theorem dX3_sumOfLots_20 : decode cX3_sumOfLots 20 = .ok (.iload 4, 2) := by decide +kernel
theorem dX3_sumOfLots_22 : decode cX3_sumOfLots 22 = .ok (.invokevirtual 43, 3) := by decide +kernel
theorem dX3_sumOfLots_25 : decode cX3_sumOfLots 25 = .ok (.ladd, 1) := by decide +kernel
theorem dX3_sumOfLots_26 : decode cX3_sumOfLots 26 = .ok (.lstore_n 2, 1) := by decide +kernel
theorem dX3_sumOfLots_27 : decode cX3_sumOfLots 27 = .ok (.iinc 4 1, 3) := by decide +kernel
theorem dX3_sumOfLots_30 : decode cX3_sumOfLots 30 = .ok (.goto (-25), 3) := by decide +kernel
theorem dX3_sumOfLots_33 : decode cX3_sumOfLots 33 = .ok (.lload_n 2, 1) := by decide +kernel
theorem dX3_sumOfLots_34 : decode cX3_sumOfLots 34 = .ok (.lreturn, 1) := by decide +kernel
theorem dX3_admit_0 : decode cX3_admit 0 = .ok (.aload_n 0, 1) := by decide +kernel
theorem dX3_admit_1 : decode cX3_admit 1 = .ok (.getfield 33, 3) := by decide +kernel
theorem dX3_admit_4 : decode cX3_admit 4 = .ok (.iload_n 1, 1) := by decide +kernel
theorem dX3_admit_5 : decode cX3_admit 5 = .ok (.invokevirtual 47, 3) := by decide +kernel
theorem dX3_admit_8 : decode cX3_admit 8 = .ok (.ifCond .ne 4, 3) := by decide +kernel
theorem dX3_admit_11 : decode cX3_admit 11 = .ok (.return_, 1) := by decide +kernel
theorem dX3_admit_12 : decode cX3_admit 12 = .ok (.aload_n 0, 1) := by decide +kernel
theorem dX3_admit_13 : decode cX3_admit 13 = .ok (.getfield 9, 3) := by decide +kernel
theorem dX3_admit_16 : decode cX3_admit 16 = .ok (.iload_n 1, 1) := by decide +kernel
theorem dX3_admit_17 : decode cX3_admit 17 = .ok (.bipush 48, 2) := by decide +kernel
theorem dX3_admit_19 : decode cX3_admit 19 = .ok (.imul, 1) := by decide +kernel
theorem dX3_admit_20 : decode cX3_admit 20 = .ok (.iload_n 1, 1) := by decide +kernel
theorem dX3_admit_21 : decode cX3_admit 21 = .ok (.iadd, 1) := by decide +kernel
theorem dX3_admit_22 : decode cX3_admit 22 = .ok (.aload_n 0, 1) := by decide +kernel
theorem dX3_admit_23 : decode cX3_admit 23 = .ok (.getfield 33, 3) := by decide +kernel
theorem dX3_admit_26 : decode cX3_admit 26 = .ok (.getfield 51, 3) := by decide +kernel
theorem dX3_admit_29 : decode cX3_admit 29 = .ok (.iload_n 1, 1) := by decide +kernel
theorem dX3_admit_30 : decode cX3_admit 30 = .ok (.laload, 1) := by decide +kernel
theorem dX3_admit_31 : decode cX3_admit 31 = .ok (.lastore, 1) := by decide +kernel
theorem dX3_admit_32 : decode cX3_admit 32 = .ok (.aload_n 0, 1) := by decide +kernel
theorem dX3_admit_33 : decode cX3_admit 33 = .ok (.getfield 15, 3) := by decide +kernel
theorem dX3_admit_36 : decode cX3_admit 36 = .ok (.iload_n 1, 1) := by decide +kernel
theorem dX3_admit_37 : decode cX3_admit 37 = .ok (.aload_n 0, 1) := by decide +kernel
theorem dX3_admit_38 : decode cX3_admit 38 = .ok (.getfield 33, 3) := by decide +kernel
theorem dX3_admit_41 : decode cX3_admit 41 = .ok (.getfield 51, 3) := by decide +kernel
theorem dX3_admit_44 : decode cX3_admit 44 = .ok (.iload_n 1, 1) := by decide +kernel
theorem dX3_admit_45 : decode cX3_admit 45 = .ok (.laload, 1) := by decide +kernel
theorem dX3_admit_46 : decode cX3_admit 46 = .ok (.lastore, 1) := by decide +kernel
theorem dX3_admit_47 : decode cX3_admit 47 = .ok (.aload_n 0, 1) := by decide +kernel
theorem dX3_admit_48 : decode cX3_admit 48 = .ok (.getfield 24, 3) := by decide +kernel
theorem dX3_admit_51 : decode cX3_admit 51 = .ok (.iload_n 1, 1) := by decide +kernel
theorem dX3_admit_52 : decode cX3_admit 52 = .ok (.lconst 1, 1) := by decide +kernel
theorem dX3_admit_53 : decode cX3_admit 53 = .ok (.iload_n 1, 1) := by decide +kernel
theorem dX3_admit_54 : decode cX3_admit 54 = .ok (.lshl, 1) := by decide +kernel
theorem dX3_admit_55 : decode cX3_admit 55 = .ok (.lastore, 1) := by decide +kernel
theorem dX3_admit_56 : decode cX3_admit 56 = .ok (.return_, 1) := by decide +kernel
theorem dX3_replay_0 : decode cX3_replay 0 = .ok (.aload_n 0, 1) := by decide +kernel
theorem dX3_replay_1 : decode cX3_replay 1 = .ok (.invokevirtual 54, 3) := by decide +kernel
theorem dX3_replay_4 : decode cX3_replay 4 = .ok (.iconst 0, 1) := by decide +kernel
theorem dX3_replay_5 : decode cX3_replay 5 = .ok (.istore_n 2, 1) := by decide +kernel
theorem dX3_replay_6 : decode cX3_replay 6 = .ok (.iload_n 2, 1) := by decide +kernel
theorem dX3_replay_7 : decode cX3_replay 7 = .ok (.aload_n 1, 1) := by decide +kernel
theorem dX3_replay_8 : decode cX3_replay 8 = .ok (.getfield 57, 3) := by decide +kernel
theorem dX3_replay_11 : decode cX3_replay 11 = .ok (.if_icmp .ge 54, 3) := by decide +kernel
theorem dX3_replay_14 : decode cX3_replay 14 = .ok (.aload_n 1, 1) := by decide +kernel
theorem dX3_replay_15 : decode cX3_replay 15 = .ok (.getfield 60, 3) := by decide +kernel
theorem dX3_replay_18 : decode cX3_replay 18 = .ok (.iload_n 2, 1) := by decide +kernel
theorem dX3_replay_19 : decode cX3_replay 19 = .ok (.iaload, 1) := by decide +kernel
theorem dX3_replay_20 : decode cX3_replay 20 = .ok (.istore_n 3, 1) := by decide +kernel
theorem dX3_replay_21 : decode cX3_replay 21 = .ok (.aload_n 1, 1) := by decide +kernel
theorem dX3_replay_22 : decode cX3_replay 22 = .ok (.getfield 64, 3) := by decide +kernel
theorem dX3_replay_25 : decode cX3_replay 25 = .ok (.iload_n 3, 1) := by decide +kernel
theorem dX3_replay_26 : decode cX3_replay 26 = .ok (.laload, 1) := by decide +kernel
theorem dX3_replay_27 : decode cX3_replay 27 = .ok (.lconst 0, 1) := by decide +kernel
theorem dX3_replay_28 : decode cX3_replay 28 = .ok (.lcmp, 1) := by decide +kernel
theorem dX3_replay_29 : decode cX3_replay 29 = .ok (.ifCond .le 30, 3) := by decide +kernel
theorem dX3_replay_32 : decode cX3_replay 32 = .ok (.aload_n 0, 1) := by decide +kernel
theorem dX3_replay_33 : decode cX3_replay 33 = .ok (.aload_n 1, 1) := by decide +kernel
theorem dX3_replay_34 : decode cX3_replay 34 = .ok (.getfield 65, 3) := by decide +kernel
theorem dX3_replay_37 : decode cX3_replay 37 = .ok (.iload_n 3, 1) := by decide +kernel
theorem dX3_replay_38 : decode cX3_replay 38 = .ok (.iaload, 1) := by decide +kernel
theorem dX3_replay_39 : decode cX3_replay 39 = .ok (.aload_n 1, 1) := by decide +kernel
theorem dX3_replay_40 : decode cX3_replay 40 = .ok (.getfield 68, 3) := by decide +kernel
theorem dX3_replay_43 : decode cX3_replay 43 = .ok (.iload_n 3, 1) := by decide +kernel
theorem dX3_replay_44 : decode cX3_replay 44 = .ok (.iaload, 1) := by decide +kernel
theorem dX3_replay_45 : decode cX3_replay 45 = .ok (.aload_n 1, 1) := by decide +kernel
theorem dX3_replay_46 : decode cX3_replay 46 = .ok (.getfield 64, 3) := by decide +kernel
theorem dX3_replay_49 : decode cX3_replay 49 = .ok (.iload_n 3, 1) := by decide +kernel
theorem dX3_replay_50 : decode cX3_replay 50 = .ok (.laload, 1) := by decide +kernel
theorem dX3_replay_51 : decode cX3_replay 51 = .ok (.invokevirtual 71, 3) := by decide +kernel
theorem dX3_replay_54 : decode cX3_replay 54 = .ok (.ifCond .ne 5, 3) := by decide +kernel
theorem dX3_replay_57 : decode cX3_replay 57 = .ok (.iconst 0, 1) := by decide +kernel
theorem dX3_replay_58 : decode cX3_replay 58 = .ok (.ireturn, 1) := by decide +kernel
theorem dX3_replay_59 : decode cX3_replay 59 = .ok (.iinc 2 1, 3) := by decide +kernel
theorem dX3_replay_62 : decode cX3_replay 62 = .ok (.goto (-56), 3) := by decide +kernel
theorem dX3_replay_65 : decode cX3_replay 65 = .ok (.iconst 1, 1) := by decide +kernel
theorem dX3_replay_66 : decode cX3_replay 66 = .ok (.ireturn, 1) := by decide +kernel
theorem dX3_clear_0 : decode cX3_clear 0 = .ok (.aload_n 0, 1) := by decide +kernel
theorem dX3_clear_1 : decode cX3_clear 1 = .ok (.getfield 9, 3) := by decide +kernel
theorem dX3_clear_4 : decode cX3_clear 4 = .ok (.lconst 0, 1) := by decide +kernel
theorem dX3_clear_5 : decode cX3_clear 5 = .ok (.invokestatic 75, 3) := by decide +kernel
theorem dX3_clear_8 : decode cX3_clear 8 = .ok (.aload_n 0, 1) := by decide +kernel
theorem dX3_clear_9 : decode cX3_clear 9 = .ok (.getfield 15, 3) := by decide +kernel
theorem dX3_clear_12 : decode cX3_clear 12 = .ok (.lconst 0, 1) := by decide +kernel
theorem dX3_clear_13 : decode cX3_clear 13 = .ok (.invokestatic 75, 3) := by decide +kernel
theorem dX3_clear_16 : decode cX3_clear 16 = .ok (.aload_n 0, 1) := by decide +kernel
theorem dX3_clear_17 : decode cX3_clear 17 = .ok (.getfield 18, 3) := by decide +kernel
theorem dX3_clear_20 : decode cX3_clear 20 = .ok (.lconst 0, 1) := by decide +kernel
theorem dX3_clear_21 : decode cX3_clear 21 = .ok (.invokestatic 75, 3) := by decide +kernel
theorem dX3_clear_24 : decode cX3_clear 24 = .ok (.aload_n 0, 1) := by decide +kernel
theorem dX3_clear_25 : decode cX3_clear 25 = .ok (.getfield 21, 3) := by decide +kernel
theorem dX3_clear_28 : decode cX3_clear 28 = .ok (.lconst 0, 1) := by decide +kernel
theorem dX3_clear_29 : decode cX3_clear 29 = .ok (.invokestatic 75, 3) := by decide +kernel
theorem dX3_clear_32 : decode cX3_clear 32 = .ok (.aload_n 0, 1) := by decide +kernel
theorem dX3_clear_33 : decode cX3_clear 33 = .ok (.getfield 24, 3) := by decide +kernel
theorem dX3_clear_36 : decode cX3_clear 36 = .ok (.lconst 0, 1) := by decide +kernel
theorem dX3_clear_37 : decode cX3_clear 37 = .ok (.invokestatic 75, 3) := by decide +kernel
theorem dX3_clear_40 : decode cX3_clear 40 = .ok (.iconst 0, 1) := by decide +kernel
theorem dX3_clear_41 : decode cX3_clear 41 = .ok (.istore_n 1, 1) := by decide +kernel
theorem dX3_clear_42 : decode cX3_clear 42 = .ok (.iload_n 1, 1) := by decide +kernel
theorem dX3_clear_43 : decode cX3_clear 43 = .ok (.aload_n 0, 1) := by decide +kernel
theorem dX3_clear_44 : decode cX3_clear 44 = .ok (.getfield 33, 3) := by decide +kernel
theorem dX3_clear_47 : decode cX3_clear 47 = .ok (.getfield 37, 3) := by decide +kernel
theorem dX3_clear_50 : decode cX3_clear 50 = .ok (.if_icmp .ge 14, 3) := by decide +kernel
theorem dX3_clear_53 : decode cX3_clear 53 = .ok (.aload_n 0, 1) := by decide +kernel
theorem dX3_clear_54 : decode cX3_clear 54 = .ok (.iload_n 1, 1) := by decide +kernel
theorem dX3_clear_55 : decode cX3_clear 55 = .ok (.invokevirtual 81, 3) := by decide +kernel
theorem dX3_clear_58 : decode cX3_clear 58 = .ok (.iinc 1 1, 3) := by decide +kernel
theorem dX3_clear_61 : decode cX3_clear 61 = .ok (.goto (-19), 3) := by decide +kernel
theorem dX3_clear_64 : decode cX3_clear 64 = .ok (.return_, 1) := by decide +kernel
theorem dX3_move_0 : decode cX3_move 0 = .ok (.aload_n 0, 1) := by decide +kernel
theorem dX3_move_1 : decode cX3_move 1 = .ok (.iload_n 1, 1) := by decide +kernel
theorem dX3_move_2 : decode cX3_move 2 = .ok (.invokevirtual 85, 3) := by decide +kernel
theorem dX3_move_5 : decode cX3_move 5 = .ok (.lstore 5, 2) := by decide +kernel
theorem dX3_move_7 : decode cX3_move 7 = .ok (.lload 5, 2) := by decide +kernel
theorem dX3_move_9 : decode cX3_move 9 = .ok (.lconst 0, 1) := by decide +kernel
theorem dX3_move_10 : decode cX3_move 10 = .ok (.lcmp, 1) := by decide +kernel
theorem dX3_move_11 : decode cX3_move 11 = .ok (.ifCond .le 10, 3) := by decide +kernel
theorem dX3_move_14 : decode cX3_move 14 = .ok (.lload_n 3, 1) := by decide +kernel
theorem dX3_move_15 : decode cX3_move 15 = .ok (.lload 5, 2) := by decide +kernel
theorem dX3_move_17 : decode cX3_move 17 = .ok (.lcmp, 1) := by decide +kernel
theorem dX3_move_18 : decode cX3_move 18 = .ok (.ifCond .le 5, 3) := by decide +kernel
theorem dX3_move_21 : decode cX3_move 21 = .ok (.iconst 0, 1) := by decide +kernel
theorem dX3_move_22 : decode cX3_move 22 = .ok (.ireturn, 1) := by decide +kernel
theorem dX3_move_23 : decode cX3_move 23 = .ok (.aload_n 0, 1) := by decide +kernel
theorem dX3_move_24 : decode cX3_move 24 = .ok (.iload_n 1, 1) := by decide +kernel
theorem dX3_move_25 : decode cX3_move 25 = .ok (.lload 5, 2) := by decide +kernel
theorem dX3_move_27 : decode cX3_move 27 = .ok (.lload_n 3, 1) := by decide +kernel
theorem dX3_move_28 : decode cX3_move 28 = .ok (.invokevirtual 89, 3) := by decide +kernel
theorem dX3_move_31 : decode cX3_move 31 = .ok (.iconst 0, 1) := by decide +kernel
theorem dX3_move_32 : decode cX3_move 32 = .ok (.istore 7, 2) := by decide +kernel
theorem dX3_move_34 : decode cX3_move 34 = .ok (.iload 7, 2) := by decide +kernel
theorem dX3_move_36 : decode cX3_move 36 = .ok (.aload_n 0, 1) := by decide +kernel
theorem dX3_move_37 : decode cX3_move 37 = .ok (.getfield 33, 3) := by decide +kernel
theorem dX3_move_40 : decode cX3_move 40 = .ok (.getfield 37, 3) := by decide +kernel
theorem dX3_move_43 : decode cX3_move 43 = .ok (.if_icmp .ge 78, 3) := by decide +kernel
theorem dX3_move_46 : decode cX3_move 46 = .ok (.aload_n 0, 1) := by decide +kernel
theorem dX3_move_47 : decode cX3_move 47 = .ok (.getfield 27, 3) := by decide +kernel
theorem dX3_move_50 : decode cX3_move 50 = .ok (.iload 7, 2) := by decide +kernel
theorem dX3_move_52 : decode cX3_move 52 = .ok (.laload, 1) := by decide +kernel
theorem dX3_move_53 : decode cX3_move 53 = .ok (.lconst 0, 1) := by decide +kernel
theorem dX3_move_54 : decode cX3_move 54 = .ok (.lcmp, 1) := by decide +kernel
theorem dX3_move_55 : decode cX3_move 55 = .ok (.ifCond .le 60, 3) := by decide +kernel
theorem dX3_move_58 : decode cX3_move 58 = .ok (.aload_n 0, 1) := by decide +kernel
theorem dX3_move_59 : decode cX3_move 59 = .ok (.getfield 9, 3) := by decide +kernel
theorem dX3_move_62 : decode cX3_move 62 = .ok (.iload_n 1, 1) := by decide +kernel
theorem dX3_move_63 : decode cX3_move 63 = .ok (.bipush 48, 2) := by decide +kernel
theorem dX3_move_65 : decode cX3_move 65 = .ok (.imul, 1) := by decide +kernel
theorem dX3_move_66 : decode cX3_move 66 = .ok (.iload 7, 2) := by decide +kernel
theorem dX3_move_68 : decode cX3_move 68 = .ok (.iadd, 1) := by decide +kernel
theorem dX3_move_69 : decode cX3_move 69 = .ok (.dup2, 1) := by decide +kernel
theorem dX3_move_70 : decode cX3_move 70 = .ok (.laload, 1) := by decide +kernel
theorem dX3_move_71 : decode cX3_move 71 = .ok (.aload_n 0, 1) := by decide +kernel
theorem dX3_move_72 : decode cX3_move 72 = .ok (.getfield 27, 3) := by decide +kernel
theorem dX3_move_75 : decode cX3_move 75 = .ok (.iload 7, 2) := by decide +kernel
theorem dX3_move_77 : decode cX3_move 77 = .ok (.laload, 1) := by decide +kernel
theorem dX3_move_78 : decode cX3_move 78 = .ok (.lsub, 1) := by decide +kernel
theorem dX3_move_79 : decode cX3_move 79 = .ok (.lastore, 1) := by decide +kernel
theorem dX3_move_80 : decode cX3_move 80 = .ok (.aload_n 0, 1) := by decide +kernel
theorem dX3_move_81 : decode cX3_move 81 = .ok (.getfield 9, 3) := by decide +kernel
theorem dX3_move_84 : decode cX3_move 84 = .ok (.iload_n 2, 1) := by decide +kernel
theorem dX3_move_85 : decode cX3_move 85 = .ok (.bipush 48, 2) := by decide +kernel
theorem dX3_move_87 : decode cX3_move 87 = .ok (.imul, 1) := by decide +kernel
theorem dX3_move_88 : decode cX3_move 88 = .ok (.iload 7, 2) := by decide +kernel
theorem dX3_move_90 : decode cX3_move 90 = .ok (.iadd, 1) := by decide +kernel
theorem dX3_move_91 : decode cX3_move 91 = .ok (.dup2, 1) := by decide +kernel
theorem dX3_move_92 : decode cX3_move 92 = .ok (.laload, 1) := by decide +kernel
theorem dX3_move_93 : decode cX3_move 93 = .ok (.aload_n 0, 1) := by decide +kernel
theorem dX3_move_94 : decode cX3_move 94 = .ok (.getfield 27, 3) := by decide +kernel
theorem dX3_move_97 : decode cX3_move 97 = .ok (.iload 7, 2) := by decide +kernel
theorem dX3_move_99 : decode cX3_move 99 = .ok (.laload, 1) := by decide +kernel
theorem dX3_move_100 : decode cX3_move 100 = .ok (.ladd, 1) := by decide +kernel
theorem dX3_move_101 : decode cX3_move 101 = .ok (.lastore, 1) := by decide +kernel
theorem dX3_move_102 : decode cX3_move 102 = .ok (.aload_n 0, 1) := by decide +kernel
theorem dX3_move_103 : decode cX3_move 103 = .ok (.getfield 24, 3) := by decide +kernel
theorem dX3_move_106 : decode cX3_move 106 = .ok (.iload_n 2, 1) := by decide +kernel
theorem dX3_move_107 : decode cX3_move 107 = .ok (.dup2, 1) := by decide +kernel
theorem dX3_move_108 : decode cX3_move 108 = .ok (.laload, 1) := by decide +kernel
theorem dX3_move_109 : decode cX3_move 109 = .ok (.lconst 1, 1) := by decide +kernel
theorem dX3_move_110 : decode cX3_move 110 = .ok (.iload 7, 2) := by decide +kernel
theorem dX3_move_112 : decode cX3_move 112 = .ok (.lshl, 1) := by decide +kernel
theorem dX3_move_113 : decode cX3_move 113 = .ok (.lor, 1) := by decide +kernel
theorem dX3_move_114 : decode cX3_move 114 = .ok (.lastore, 1) := by decide +kernel
theorem dX3_move_115 : decode cX3_move 115 = .ok (.iinc 7 1, 3) := by decide +kernel
theorem dX3_move_118 : decode cX3_move 118 = .ok (.goto (-84), 3) := by decide +kernel
theorem dX3_move_121 : decode cX3_move 121 = .ok (.aload_n 0, 1) := by decide +kernel
theorem dX3_move_122 : decode cX3_move 122 = .ok (.getfield 18, 3) := by decide +kernel
theorem dX3_move_125 : decode cX3_move 125 = .ok (.iload_n 1, 1) := by decide +kernel
theorem dX3_move_126 : decode cX3_move 126 = .ok (.dup2, 1) := by decide +kernel
theorem dX3_move_127 : decode cX3_move 127 = .ok (.laload, 1) := by decide +kernel
theorem dX3_move_128 : decode cX3_move 128 = .ok (.lload_n 3, 1) := by decide +kernel
theorem dX3_move_129 : decode cX3_move 129 = .ok (.ladd, 1) := by decide +kernel
theorem dX3_move_130 : decode cX3_move 130 = .ok (.lastore, 1) := by decide +kernel
theorem dX3_move_131 : decode cX3_move 131 = .ok (.aload_n 0, 1) := by decide +kernel
theorem dX3_move_132 : decode cX3_move 132 = .ok (.getfield 15, 3) := by decide +kernel
theorem dX3_move_135 : decode cX3_move 135 = .ok (.iload_n 2, 1) := by decide +kernel
theorem dX3_move_136 : decode cX3_move 136 = .ok (.dup2, 1) := by decide +kernel
theorem dX3_move_137 : decode cX3_move 137 = .ok (.laload, 1) := by decide +kernel
theorem dX3_move_138 : decode cX3_move 138 = .ok (.lload_n 3, 1) := by decide +kernel
theorem dX3_move_139 : decode cX3_move 139 = .ok (.ladd, 1) := by decide +kernel
theorem dX3_move_140 : decode cX3_move 140 = .ok (.lastore, 1) := by decide +kernel
theorem dX3_move_141 : decode cX3_move 141 = .ok (.aload_n 0, 1) := by decide +kernel
theorem dX3_move_142 : decode cX3_move 142 = .ok (.getfield 33, 3) := by decide +kernel
theorem dX3_move_145 : decode cX3_move 145 = .ok (.iload_n 2, 1) := by decide +kernel
theorem dX3_move_146 : decode cX3_move 146 = .ok (.invokevirtual 93, 3) := by decide +kernel
theorem dX3_move_149 : decode cX3_move 149 = .ok (.ifCond .eq 13, 3) := by decide +kernel
theorem dX3_move_152 : decode cX3_move 152 = .ok (.aload_n 0, 1) := by decide +kernel
theorem dX3_move_153 : decode cX3_move 153 = .ok (.getfield 21, 3) := by decide +kernel
theorem dX3_move_156 : decode cX3_move 156 = .ok (.iload_n 1, 1) := by decide +kernel
theorem dX3_move_157 : decode cX3_move 157 = .ok (.dup2, 1) := by decide +kernel
theorem dX3_move_158 : decode cX3_move 158 = .ok (.laload, 1) := by decide +kernel
theorem dX3_move_159 : decode cX3_move 159 = .ok (.lload_n 3, 1) := by decide +kernel
theorem dX3_move_160 : decode cX3_move 160 = .ok (.ladd, 1) := by decide +kernel
theorem dX3_move_161 : decode cX3_move 161 = .ok (.lastore, 1) := by decide +kernel
theorem dX3_move_162 : decode cX3_move 162 = .ok (.iconst 1, 1) := by decide +kernel
theorem dX3_move_163 : decode cX3_move 163 = .ok (.ireturn, 1) := by decide +kernel
theorem dX3_part_0 : decode cX3_part 0 = .ok (.lload_n 2, 1) := by decide +kernel
theorem dX3_part_1 : decode cX3_part 1 = .ok (.lconst 0, 1) := by decide +kernel
theorem dX3_part_2 : decode cX3_part 2 = .ok (.lcmp, 1) := by decide +kernel
theorem dX3_part_3 : decode cX3_part 3 = .ok (.ifCond .gt 4, 3) := by decide +kernel
theorem dX3_part_6 : decode cX3_part 6 = .ok (.return_, 1) := by decide +kernel
theorem dX3_part_7 : decode cX3_part 7 = .ok (.lload 4, 2) := by decide +kernel
theorem dX3_part_9 : decode cX3_part 9 = .ok (.lstore 6, 2) := by decide +kernel
theorem dX3_part_11 : decode cX3_part 11 = .ok (.iconst 0, 1) := by decide +kernel
theorem dX3_part_12 : decode cX3_part 12 = .ok (.istore 8, 2) := by decide +kernel
theorem dX3_part_14 : decode cX3_part 14 = .ok (.iload 8, 2) := by decide +kernel
theorem dX3_part_16 : decode cX3_part 16 = .ok (.aload_n 0, 1) := by decide +kernel
theorem dX3_part_17 : decode cX3_part 17 = .ok (.getfield 33, 3) := by decide +kernel
theorem dX3_part_20 : decode cX3_part 20 = .ok (.getfield 37, 3) := by decide +kernel
theorem dX3_part_23 : decode cX3_part 23 = .ok (.if_icmp .ge 55, 3) := by decide +kernel
theorem dX3_part_26 : decode cX3_part 26 = .ok (.aload_n 0, 1) := by decide +kernel
theorem dX3_part_27 : decode cX3_part 27 = .ok (.iload_n 1, 1) := by decide +kernel
theorem dX3_part_28 : decode cX3_part 28 = .ok (.iload 8, 2) := by decide +kernel
theorem dX3_part_30 : decode cX3_part 30 = .ok (.invokevirtual 43, 3) := by decide +kernel
theorem dX3_part_33 : decode cX3_part 33 = .ok (.lload 4, 2) := by decide +kernel
theorem dX3_part_35 : decode cX3_part 35 = .ok (.lmul, 1) := by decide +kernel
theorem dX3_part_36 : decode cX3_part 36 = .ok (.lstore 9, 2) := by decide +kernel
theorem dX3_part_38 : decode cX3_part 38 = .ok (.aload_n 0, 1) := by decide +kernel
theorem dX3_part_39 : decode cX3_part 39 = .ok (.getfield 27, 3) := by decide +kernel
theorem dX3_part_42 : decode cX3_part 42 = .ok (.iload 8, 2) := by decide +kernel
theorem dX3_part_44 : decode cX3_part 44 = .ok (.lload 9, 2) := by decide +kernel
theorem dX3_part_46 : decode cX3_part 46 = .ok (.lload_n 2, 1) := by decide +kernel
theorem dX3_part_47 : decode cX3_part 47 = .ok (.ldiv, 1) := by decide +kernel
theorem dX3_part_48 : decode cX3_part 48 = .ok (.lastore, 1) := by decide +kernel
theorem dX3_part_49 : decode cX3_part 49 = .ok (.aload_n 0, 1) := by decide +kernel
theorem dX3_part_50 : decode cX3_part 50 = .ok (.getfield 30, 3) := by decide +kernel
theorem dX3_part_53 : decode cX3_part 53 = .ok (.iload 8, 2) := by decide +kernel
theorem dX3_part_55 : decode cX3_part 55 = .ok (.lload 9, 2) := by decide +kernel
theorem dX3_part_57 : decode cX3_part 57 = .ok (.lload_n 2, 1) := by decide +kernel
theorem dX3_part_58 : decode cX3_part 58 = .ok (.lrem, 1) := by decide +kernel
theorem dX3_part_59 : decode cX3_part 59 = .ok (.lastore, 1) := by decide +kernel
theorem dX3_part_60 : decode cX3_part 60 = .ok (.lload 6, 2) := by decide +kernel
theorem dX3_part_62 : decode cX3_part 62 = .ok (.aload_n 0, 1) := by decide +kernel
theorem dX3_part_63 : decode cX3_part 63 = .ok (.getfield 27, 3) := by decide +kernel
theorem dX3_part_66 : decode cX3_part 66 = .ok (.iload 8, 2) := by decide +kernel
theorem dX3_part_68 : decode cX3_part 68 = .ok (.laload, 1) := by decide +kernel
theorem dX3_part_69 : decode cX3_part 69 = .ok (.lsub, 1) := by decide +kernel
theorem dX3_part_70 : decode cX3_part 70 = .ok (.lstore 6, 2) := by decide +kernel
theorem dX3_part_72 : decode cX3_part 72 = .ok (.iinc 8 1, 3) := by decide +kernel
theorem dX3_part_75 : decode cX3_part 75 = .ok (.goto (-61), 3) := by decide +kernel
theorem dX3_part_78 : decode cX3_part 78 = .ok (.iconst 0, 1) := by decide +kernel
theorem dX3_part_79 : decode cX3_part 79 = .ok (.istore 8, 2) := by decide +kernel
theorem dX3_part_81 : decode cX3_part 81 = .ok (.iload 8, 2) := by decide +kernel
theorem dX3_part_83 : decode cX3_part 83 = .ok (.aload_n 0, 1) := by decide +kernel
theorem dX3_part_84 : decode cX3_part 84 = .ok (.getfield 33, 3) := by decide +kernel
theorem dX3_part_87 : decode cX3_part 87 = .ok (.getfield 37, 3) := by decide +kernel
theorem dX3_part_90 : decode cX3_part 90 = .ok (.if_icmp .ge 47, 3) := by decide +kernel
theorem dX3_part_93 : decode cX3_part 93 = .ok (.lload 6, 2) := by decide +kernel
theorem dX3_part_95 : decode cX3_part 95 = .ok (.lconst 0, 1) := by decide +kernel
theorem dX3_part_96 : decode cX3_part 96 = .ok (.lcmp, 1) := by decide +kernel
theorem dX3_part_97 : decode cX3_part 97 = .ok (.ifCond .le 40, 3) := by decide +kernel
theorem dX3_part_100 : decode cX3_part 100 = .ok (.aload_n 0, 1) := by decide +kernel
theorem dX3_part_101 : decode cX3_part 101 = .ok (.invokevirtual 96, 3) := by decide +kernel
theorem dX3_part_104 : decode cX3_part 104 = .ok (.istore 9, 2) := by decide +kernel
theorem dX3_part_106 : decode cX3_part 106 = .ok (.aload_n 0, 1) := by decide +kernel
theorem dX3_part_107 : decode cX3_part 107 = .ok (.getfield 27, 3) := by decide +kernel
theorem dX3_part_110 : decode cX3_part 110 = .ok (.iload 9, 2) := by decide +kernel
theorem dX3_part_112 : decode cX3_part 112 = .ok (.dup2, 1) := by decide +kernel
theorem dX3_part_113 : decode cX3_part 113 = .ok (.laload, 1) := by decide +kernel
theorem dX3_part_114 : decode cX3_part 114 = .ok (.lconst 1, 1) := by decide +kernel
theorem dX3_part_115 : decode cX3_part 115 = .ok (.ladd, 1) := by decide +kernel
theorem dX3_part_116 : decode cX3_part 116 = .ok (.lastore, 1) := by decide +kernel
theorem dX3_part_117 : decode cX3_part 117 = .ok (.aload_n 0, 1) := by decide +kernel
theorem dX3_part_118 : decode cX3_part 118 = .ok (.getfield 30, 3) := by decide +kernel
theorem dX3_part_121 : decode cX3_part 121 = .ok (.iload 9, 2) := by decide +kernel
theorem dX3_part_123 : decode cX3_part 123 = .ok (.lconst 0, 1) := by decide +kernel
theorem dX3_part_124 : decode cX3_part 124 = .ok (.lastore, 1) := by decide +kernel
theorem dX3_part_125 : decode cX3_part 125 = .ok (.lload 6, 2) := by decide +kernel
theorem dX3_part_127 : decode cX3_part 127 = .ok (.lconst 1, 1) := by decide +kernel
theorem dX3_part_128 : decode cX3_part 128 = .ok (.lsub, 1) := by decide +kernel
theorem dX3_part_129 : decode cX3_part 129 = .ok (.lstore 6, 2) := by decide +kernel
theorem dX3_part_131 : decode cX3_part 131 = .ok (.iinc 8 1, 3) := by decide +kernel
theorem dX3_part_134 : decode cX3_part 134 = .ok (.goto (-53), 3) := by decide +kernel
theorem dX3_part_137 : decode cX3_part 137 = .ok (.return_, 1) := by decide +kernel
theorem dX3_greatestRest_0 : decode cX3_greatestRest 0 = .ok (.iconst 0, 1) := by decide +kernel
theorem dX3_greatestRest_1 : decode cX3_greatestRest 1 = .ok (.istore_n 1, 1) := by decide +kernel
theorem dX3_greatestRest_2 : decode cX3_greatestRest 2 = .ok (.iconst 1, 1) := by decide +kernel
theorem dX3_greatestRest_3 : decode cX3_greatestRest 3 = .ok (.istore_n 2, 1) := by decide +kernel
theorem dX3_greatestRest_4 : decode cX3_greatestRest 4 = .ok (.iload_n 2, 1) := by decide +kernel
theorem dX3_greatestRest_5 : decode cX3_greatestRest 5 = .ok (.aload_n 0, 1) := by decide +kernel
theorem dX3_greatestRest_6 : decode cX3_greatestRest 6 = .ok (.getfield 33, 3) := by decide +kernel
theorem dX3_greatestRest_9 : decode cX3_greatestRest 9 = .ok (.getfield 37, 3) := by decide +kernel
theorem dX3_greatestRest_12 : decode cX3_greatestRest 12 = .ok (.if_icmp .ge 27, 3) := by decide +kernel
theorem dX3_greatestRest_15 : decode cX3_greatestRest 15 = .ok (.aload_n 0, 1) := by decide +kernel
theorem dX3_greatestRest_16 : decode cX3_greatestRest 16 = .ok (.getfield 30, 3) := by decide +kernel
theorem dX3_greatestRest_19 : decode cX3_greatestRest 19 = .ok (.iload_n 2, 1) := by decide +kernel
theorem dX3_greatestRest_20 : decode cX3_greatestRest 20 = .ok (.laload, 1) := by decide +kernel
theorem dX3_greatestRest_21 : decode cX3_greatestRest 21 = .ok (.aload_n 0, 1) := by decide +kernel
theorem dX3_greatestRest_22 : decode cX3_greatestRest 22 = .ok (.getfield 30, 3) := by decide +kernel
theorem dX3_greatestRest_25 : decode cX3_greatestRest 25 = .ok (.iload_n 1, 1) := by decide +kernel
theorem dX3_greatestRest_26 : decode cX3_greatestRest 26 = .ok (.laload, 1) := by decide +kernel
theorem dX3_greatestRest_27 : decode cX3_greatestRest 27 = .ok (.lcmp, 1) := by decide +kernel
theorem dX3_greatestRest_28 : decode cX3_greatestRest 28 = .ok (.ifCond .le 5, 3) := by decide +kernel
theorem dX3_greatestRest_31 : decode cX3_greatestRest 31 = .ok (.iload_n 2, 1) := by decide +kernel
theorem dX3_greatestRest_32 : decode cX3_greatestRest 32 = .ok (.istore_n 1, 1) := by decide +kernel
theorem dX3_greatestRest_33 : decode cX3_greatestRest 33 = .ok (.iinc 2 1, 3) := by decide +kernel
theorem dX3_greatestRest_36 : decode cX3_greatestRest 36 = .ok (.goto (-32), 3) := by decide +kernel
theorem dX3_greatestRest_39 : decode cX3_greatestRest 39 = .ok (.iload_n 1, 1) := by decide +kernel
theorem dX3_greatestRest_40 : decode cX3_greatestRest 40 = .ok (.ireturn, 1) := by decide +kernel
theorem dX3_countOtherNodes_0 : decode cX3_countOtherNodes 0 = .ok (.iconst 0, 1) := by decide +kernel
theorem dX3_countOtherNodes_1 : decode cX3_countOtherNodes 1 = .ok (.istore_n 2, 1) := by decide +kernel
theorem dX3_countOtherNodes_2 : decode cX3_countOtherNodes 2 = .ok (.iconst 0, 1) := by decide +kernel
theorem dX3_countOtherNodes_3 : decode cX3_countOtherNodes 3 = .ok (.istore_n 3, 1) := by decide +kernel
theorem dX3_countOtherNodes_4 : decode cX3_countOtherNodes 4 = .ok (.iload_n 3, 1) := by decide +kernel
theorem dX3_countOtherNodes_5 : decode cX3_countOtherNodes 5 = .ok (.aload_n 0, 1) := by decide +kernel
theorem dX3_countOtherNodes_6 : decode cX3_countOtherNodes 6 = .ok (.getfield 33, 3) := by decide +kernel
theorem dX3_countOtherNodes_9 : decode cX3_countOtherNodes 9 = .ok (.getfield 37, 3) := by decide +kernel
theorem dX3_countOtherNodes_12 : decode cX3_countOtherNodes 12 = .ok (.if_icmp .ge 21, 3) := by decide +kernel
theorem dX3_countOtherNodes_15 : decode cX3_countOtherNodes 15 = .ok (.aload_n 0, 1) := by decide +kernel
theorem dX3_countOtherNodes_16 : decode cX3_countOtherNodes 16 = .ok (.aload_n 1, 1) := by decide +kernel
theorem dX3_countOtherNodes_17 : decode cX3_countOtherNodes 17 = .ok (.iload_n 3, 1) := by decide +kernel
theorem dX3_countOtherNodes_18 : decode cX3_countOtherNodes 18 = .ok (.invokevirtual 100, 3) := by decide +kernel
theorem dX3_countOtherNodes_21 : decode cX3_countOtherNodes 21 = .ok (.ifCond .eq 6, 3) := by decide +kernel
theorem dX3_countOtherNodes_24 : decode cX3_countOtherNodes 24 = .ok (.iinc 2 1, 3) := by decide +kernel
theorem dX3_countOtherNodes_27 : decode cX3_countOtherNodes 27 = .ok (.iinc 3 1, 3) := by decide +kernel
theorem dX3_countOtherNodes_30 : decode cX3_countOtherNodes 30 = .ok (.goto (-26), 3) := by decide +kernel
theorem dX3_countOtherNodes_33 : decode cX3_countOtherNodes 33 = .ok (.iload_n 2, 1) := by decide +kernel
theorem dX3_countOtherNodes_34 : decode cX3_countOtherNodes 34 = .ok (.ireturn, 1) := by decide +kernel
theorem dX3_differs_0 : decode cX3_differs 0 = .ok (.iconst 0, 1) := by decide +kernel
theorem dX3_differs_1 : decode cX3_differs 1 = .ok (.istore_n 3, 1) := by decide +kernel
theorem dX3_differs_2 : decode cX3_differs 2 = .ok (.iload_n 3, 1) := by decide +kernel
theorem dX3_differs_3 : decode cX3_differs 3 = .ok (.aload_n 0, 1) := by decide +kernel
theorem dX3_differs_4 : decode cX3_differs 4 = .ok (.getfield 33, 3) := by decide +kernel
theorem dX3_differs_7 : decode cX3_differs 7 = .ok (.getfield 37, 3) := by decide +kernel
theorem dX3_differs_10 : decode cX3_differs 10 = .ok (.if_icmp .ge 27, 3) := by decide +kernel
theorem dX3_differs_13 : decode cX3_differs 13 = .ok (.aload_n 0, 1) := by decide +kernel
theorem dX3_differs_14 : decode cX3_differs 14 = .ok (.iload_n 2, 1) := by decide +kernel
theorem dX3_differs_15 : decode cX3_differs 15 = .ok (.iload_n 3, 1) := by decide +kernel
theorem dX3_differs_16 : decode cX3_differs 16 = .ok (.invokevirtual 43, 3) := by decide +kernel
theorem dX3_differs_19 : decode cX3_differs 19 = .ok (.aload_n 1, 1) := by decide +kernel
theorem dX3_differs_20 : decode cX3_differs 20 = .ok (.iload_n 2, 1) := by decide +kernel
theorem dX3_differs_21 : decode cX3_differs 21 = .ok (.iload_n 3, 1) := by decide +kernel
theorem dX3_differs_22 : decode cX3_differs 22 = .ok (.invokevirtual 43, 3) := by decide +kernel
theorem dX3_differs_25 : decode cX3_differs 25 = .ok (.lcmp, 1) := by decide +kernel
theorem dX3_differs_26 : decode cX3_differs 26 = .ok (.ifCond .eq 5, 3) := by decide +kernel
theorem dX3_differs_29 : decode cX3_differs 29 = .ok (.iconst 1, 1) := by decide +kernel
theorem dX3_differs_30 : decode cX3_differs 30 = .ok (.ireturn, 1) := by decide +kernel
theorem dX3_differs_31 : decode cX3_differs 31 = .ok (.iinc 3 1, 3) := by decide +kernel
theorem dX3_differs_34 : decode cX3_differs 34 = .ok (.goto (-32), 3) := by decide +kernel
theorem dX3_differs_37 : decode cX3_differs 37 = .ok (.iconst 0, 1) := by decide +kernel
theorem dX3_differs_38 : decode cX3_differs 38 = .ok (.ireturn, 1) := by decide +kernel
theorem dJ9_min_f86c9_0 : decode cJ9_min_f86c9 0 = .ok (.lload_n 0, 1) := by decide +kernel
theorem dJ9_min_f86c9_1 : decode cJ9_min_f86c9 1 = .ok (.lload_n 2, 1) := by decide +kernel
theorem dJ9_min_f86c9_2 : decode cJ9_min_f86c9 2 = .ok (.lcmp, 1) := by decide +kernel
theorem dJ9_min_f86c9_3 : decode cJ9_min_f86c9 3 = .ok (.ifCond .gt 7, 3) := by decide +kernel
theorem dJ9_min_f86c9_6 : decode cJ9_min_f86c9 6 = .ok (.lload_n 0, 1) := by decide +kernel
theorem dJ9_min_f86c9_7 : decode cJ9_min_f86c9 7 = .ok (.goto 4, 3) := by decide +kernel
theorem dJ9_min_f86c9_10 : decode cJ9_min_f86c9 10 = .ok (.lload_n 2, 1) := by decide +kernel
theorem dJ9_min_f86c9_11 : decode cJ9_min_f86c9 11 = .ok (.lreturn, 1) := by decide +kernel
theorem dJ7_fill_d0a16_0 : decode cJ7_fill_d0a16 0 = .ok (.iconst 0, 1) := by decide +kernel
theorem dJ7_fill_d0a16_1 : decode cJ7_fill_d0a16 1 = .ok (.istore_n 3, 1) := by decide +kernel
theorem dJ7_fill_d0a16_2 : decode cJ7_fill_d0a16 2 = .ok (.aload_n 0, 1) := by decide +kernel
theorem dJ7_fill_d0a16_3 : decode cJ7_fill_d0a16 3 = .ok (.arraylength, 1) := by decide +kernel
theorem dJ7_fill_d0a16_4 : decode cJ7_fill_d0a16 4 = .ok (.istore 4, 2) := by decide +kernel
theorem dJ7_fill_d0a16_6 : decode cJ7_fill_d0a16 6 = .ok (.iload_n 3, 1) := by decide +kernel
theorem dJ7_fill_d0a16_7 : decode cJ7_fill_d0a16 7 = .ok (.iload 4, 2) := by decide +kernel
theorem dJ7_fill_d0a16_9 : decode cJ7_fill_d0a16 9 = .ok (.if_icmp .ge 13, 3) := by decide +kernel
theorem dJ7_fill_d0a16_12 : decode cJ7_fill_d0a16 12 = .ok (.aload_n 0, 1) := by decide +kernel
theorem dJ7_fill_d0a16_13 : decode cJ7_fill_d0a16 13 = .ok (.iload_n 3, 1) := by decide +kernel
theorem dJ7_fill_d0a16_14 : decode cJ7_fill_d0a16 14 = .ok (.lload_n 1, 1) := by decide +kernel
theorem dJ7_fill_d0a16_15 : decode cJ7_fill_d0a16 15 = .ok (.lastore, 1) := by decide +kernel
theorem dJ7_fill_d0a16_16 : decode cJ7_fill_d0a16 16 = .ok (.iinc 3 1, 3) := by decide +kernel
theorem dJ7_fill_d0a16_19 : decode cJ7_fill_d0a16 19 = .ok (.goto (-13), 3) := by decide +kernel
theorem dJ7_fill_d0a16_22 : decode cJ7_fill_d0a16 22 = .ok (.return_, 1) := by decide +kernel
end
section
theorem dX4_init_0 : decode cX4_init 0 = .ok (.aload_n 0, 1) := by decide +kernel
theorem dX4_init_1 : decode cX4_init 1 = .ok (.invokespecial 1, 3) := by decide +kernel
theorem dX4_init_4 : decode cX4_init 4 = .ok (.aload_n 0, 1) := by decide +kernel
theorem dX4_init_5 : decode cX4_init 5 = .ok (.new 7, 3) := by decide +kernel
theorem dX4_init_8 : decode cX4_init 8 = .ok (.dup, 1) := by decide +kernel
theorem dX4_init_9 : decode cX4_init 9 = .ok (.invokespecial 9, 3) := by decide +kernel
theorem dX4_init_12 : decode cX4_init 12 = .ok (.putfield 10, 3) := by decide +kernel
theorem dX4_init_15 : decode cX4_init 15 = .ok (.aload_n 0, 1) := by decide +kernel
theorem dX4_init_16 : decode cX4_init 16 = .ok (.new 16, 3) := by decide +kernel
theorem dX4_init_19 : decode cX4_init 19 = .ok (.dup, 1) := by decide +kernel
theorem dX4_init_20 : decode cX4_init 20 = .ok (.invokespecial 18, 3) := by decide +kernel
theorem dX4_init_23 : decode cX4_init 23 = .ok (.putfield 19, 3) := by decide +kernel
theorem dX4_init_26 : decode cX4_init 26 = .ok (.aload_n 0, 1) := by decide +kernel
theorem dX4_init_27 : decode cX4_init 27 = .ok (.new 23, 3) := by decide +kernel
theorem dX4_init_30 : decode cX4_init 30 = .ok (.dup, 1) := by decide +kernel
theorem dX4_init_31 : decode cX4_init 31 = .ok (.invokespecial 25, 3) := by decide +kernel
theorem dX4_init_34 : decode cX4_init 34 = .ok (.putfield 26, 3) := by decide +kernel
theorem dX4_init_37 : decode cX4_init 37 = .ok (.aload_n 0, 1) := by decide +kernel
theorem dX4_init_38 : decode cX4_init 38 = .ok (.new 30, 3) := by decide +kernel
theorem dX4_init_41 : decode cX4_init 41 = .ok (.dup, 1) := by decide +kernel
theorem dX4_init_42 : decode cX4_init 42 = .ok (.aload_n 0, 1) := by decide +kernel
theorem dX4_init_43 : decode cX4_init 43 = .ok (.getfield 10, 3) := by decide +kernel
theorem dX4_init_46 : decode cX4_init 46 = .ok (.invokespecial 32, 3) := by decide +kernel
theorem dX4_init_49 : decode cX4_init 49 = .ok (.putfield 35, 3) := by decide +kernel
theorem dX4_init_52 : decode cX4_init 52 = .ok (.aload_n 0, 1) := by decide +kernel
theorem dX4_init_53 : decode cX4_init 53 = .ok (.new 30, 3) := by decide +kernel
theorem dX4_init_56 : decode cX4_init 56 = .ok (.dup, 1) := by decide +kernel
theorem dX4_init_57 : decode cX4_init 57 = .ok (.aload_n 0, 1) := by decide +kernel
theorem dX4_init_58 : decode cX4_init 58 = .ok (.getfield 10, 3) := by decide +kernel
theorem dX4_init_61 : decode cX4_init 61 = .ok (.invokespecial 32, 3) := by decide +kernel
theorem dX4_init_64 : decode cX4_init 64 = .ok (.putfield 39, 3) := by decide +kernel
theorem dX4_init_67 : decode cX4_init 67 = .ok (.aload_n 0, 1) := by decide +kernel
theorem dX4_init_68 : decode cX4_init 68 = .ok (.lconst 0, 1) := by decide +kernel
theorem dX4_init_69 : decode cX4_init 69 = .ok (.putfield 42, 3) := by decide +kernel
theorem dX4_init_72 : decode cX4_init 72 = .ok (.return_, 1) := by decide +kernel
theorem dX4_lot_0 : decode cX4_lot 0 = .ok (.lload_n 1, 1) := by decide +kernel
theorem dX4_lot_1 : decode cX4_lot 1 = .ok (.invokestatic 46, 3) := by decide +kernel
theorem dX4_lot_4 : decode cX4_lot 4 = .ok (.ifCond .eq 10, 3) := by decide +kernel
theorem dX4_lot_7 : decode cX4_lot 7 = .ok (.lload_n 3, 1) := by decide +kernel
theorem dX4_lot_8 : decode cX4_lot 8 = .ok (.invokestatic 50, 3) := by decide +kernel
theorem dX4_lot_11 : decode cX4_lot 11 = .ok (.ifCond .ne 5, 3) := by decide +kernel
theorem dX4_lot_14 : decode cX4_lot 14 = .ok (.iconst (-1), 1) := by decide +kernel
theorem dX4_lot_15 : decode cX4_lot 15 = .ok (.ireturn, 1) := by decide +kernel
theorem dX4_lot_16 : decode cX4_lot 16 = .ok (.aload_n 0, 1) := by decide +kernel
theorem dX4_lot_17 : decode cX4_lot 17 = .ok (.getfield 10, 3) := by decide +kernel
theorem dX4_lot_20 : decode cX4_lot 20 = .ok (.lload_n 1, 1) := by decide +kernel
theorem dX4_lot_21 : decode cX4_lot 21 = .ok (.lload_n 3, 1) := by decide +kernel
theorem dX4_lot_22 : decode cX4_lot 22 = .ok (.invokevirtual 53, 3) := by decide +kernel
theorem dX4_lot_25 : decode cX4_lot 25 = .ok (.istore 5, 2) := by decide +kernel
theorem dX4_lot_27 : decode cX4_lot 27 = .ok (.aload_n 0, 1) := by decide +kernel
theorem dX4_lot_28 : decode cX4_lot 28 = .ok (.getfield 35, 3) := by decide +kernel
theorem dX4_lot_31 : decode cX4_lot 31 = .ok (.iload 5, 2) := by decide +kernel
theorem dX4_lot_33 : decode cX4_lot 33 = .ok (.invokevirtual 57, 3) := by decide +kernel
theorem dX4_lot_36 : decode cX4_lot 36 = .ok (.iload 5, 2) := by decide +kernel
theorem dX4_lot_38 : decode cX4_lot 38 = .ok (.ireturn, 1) := by decide +kernel
theorem dX4_thing_0 : decode cX4_thing 0 = .ok (.iload_n 1, 1) := by decide +kernel
theorem dX4_thing_1 : decode cX4_thing 1 = .ok (.ifCond .lt 8, 3) := by decide +kernel
theorem dX4_thing_4 : decode cX4_thing 4 = .ok (.iload_n 1, 1) := by decide +kernel
theorem dX4_thing_5 : decode cX4_thing 5 = .ok (.iconst 4, 1) := by decide +kernel
theorem dX4_thing_6 : decode cX4_thing 6 = .ok (.if_icmp .le 5, 3) := by decide +kernel
theorem dX4_thing_9 : decode cX4_thing 9 = .ok (.iconst (-1), 1) := by decide +kernel
theorem dX4_thing_10 : decode cX4_thing 10 = .ok (.ireturn, 1) := by decide +kernel
theorem dX4_thing_11 : decode cX4_thing 11 = .ok (.aload_n 0, 1) := by decide +kernel
theorem dX4_thing_12 : decode cX4_thing 12 = .ok (.getfield 10, 3) := by decide +kernel
theorem dX4_thing_15 : decode cX4_thing 15 = .ok (.iload_n 1, 1) := by decide +kernel
theorem dX4_thing_16 : decode cX4_thing 16 = .ok (.invokevirtual 61, 3) := by decide +kernel
theorem dX4_thing_19 : decode cX4_thing 19 = .ok (.ireturn, 1) := by decide +kernel
theorem dX4_flow_0 : decode cX4_flow 0 = .ok (.aload_n 0, 1) := by decide +kernel
theorem dX4_flow_1 : decode cX4_flow 1 = .ok (.getfield 10, 3) := by decide +kernel
theorem dX4_flow_4 : decode cX4_flow 4 = .ok (.iload_n 1, 1) := by decide +kernel
theorem dX4_flow_5 : decode cX4_flow 5 = .ok (.invokevirtual 65, 3) := by decide +kernel
theorem dX4_flow_8 : decode cX4_flow 8 = .ok (.ifCond .eq 14, 3) := by decide +kernel
theorem dX4_flow_11 : decode cX4_flow 11 = .ok (.aload_n 0, 1) := by decide +kernel
theorem dX4_flow_12 : decode cX4_flow 12 = .ok (.getfield 10, 3) := by decide +kernel
theorem dX4_flow_15 : decode cX4_flow 15 = .ok (.iload_n 2, 1) := by decide +kernel
theorem dX4_flow_16 : decode cX4_flow 16 = .ok (.invokevirtual 65, 3) := by decide +kernel
theorem dX4_flow_19 : decode cX4_flow 19 = .ok (.ifCond .ne 13, 3) := by decide +kernel
theorem dX4_flow_22 : decode cX4_flow 22 = .ok (.new 69, 3) := by decide +kernel
theorem dX4_flow_25 : decode cX4_flow 25 = .ok (.dup, 1) := by decide +kernel
theorem dX4_flow_26 : decode cX4_flow 26 = .ok (.ldc 71, 2) := by decide +kernel
theorem dX4_flow_28 : decode cX4_flow 28 = .ok (.invokespecial 73, 3) := by decide +kernel
theorem dX4_flow_31 : decode cX4_flow 31 = .ok (.athrow, 1) := by decide +kernel
theorem dX4_flow_32 : decode cX4_flow 32 = .ok (.aload_n 0, 1) := by decide +kernel
theorem dX4_flow_33 : decode cX4_flow 33 = .ok (.getfield 19, 3) := by decide +kernel
theorem dX4_flow_36 : decode cX4_flow 36 = .ok (.getfield 76, 3) := by decide +kernel
theorem dX4_flow_39 : decode cX4_flow 39 = .ok (.sipush 400, 3) := by decide +kernel
theorem dX4_flow_42 : decode cX4_flow 42 = .ok (.if_icmp .lt 13, 3) := by decide +kernel
theorem dX4_flow_45 : decode cX4_flow 45 = .ok (.new 69, 3) := by decide +kernel
theorem dX4_flow_48 : decode cX4_flow 48 = .ok (.dup, 1) := by decide +kernel
theorem dX4_flow_49 : decode cX4_flow 49 = .ok (.ldc 80, 2) := by decide +kernel
theorem dX4_flow_51 : decode cX4_flow 51 = .ok (.invokespecial 73, 3) := by decide +kernel
theorem dX4_flow_54 : decode cX4_flow 54 = .ok (.athrow, 1) := by decide +kernel
theorem dX4_flow_55 : decode cX4_flow 55 = .ok (.aload_n 0, 1) := by decide +kernel
theorem dX4_flow_56 : decode cX4_flow 56 = .ok (.getfield 10, 3) := by decide +kernel
theorem dX4_flow_59 : decode cX4_flow 59 = .ok (.iload_n 2, 1) := by decide +kernel
theorem dX4_flow_60 : decode cX4_flow 60 = .ok (.invokevirtual 82, 3) := by decide +kernel
theorem dX4_flow_63 : decode cX4_flow 63 = .ok (.ifCond .ne 19, 3) := by decide +kernel
theorem dX4_flow_66 : decode cX4_flow 66 = .ok (.aload_n 0, 1) := by decide +kernel
theorem dX4_flow_67 : decode cX4_flow 67 = .ok (.getfield 10, 3) := by decide +kernel
theorem dX4_flow_70 : decode cX4_flow 70 = .ok (.iload_n 1, 1) := by decide +kernel
theorem dX4_flow_71 : decode cX4_flow 71 = .ok (.invokevirtual 85, 3) := by decide +kernel
theorem dX4_flow_74 : decode cX4_flow 74 = .ok (.ifCond .ne 8, 3) := by decide +kernel
theorem dX4_flow_77 : decode cX4_flow 77 = .ok (.iload_n 1, 1) := by decide +kernel
theorem dX4_flow_78 : decode cX4_flow 78 = .ok (.iload_n 2, 1) := by decide +kernel
theorem dX4_flow_79 : decode cX4_flow 79 = .ok (.if_icmp .ne 13, 3) := by decide +kernel
theorem dX4_flow_82 : decode cX4_flow 82 = .ok (.new 88, 3) := by decide +kernel
theorem dX4_flow_85 : decode cX4_flow 85 = .ok (.dup, 1) := by decide +kernel
theorem dX4_flow_86 : decode cX4_flow 86 = .ok (.ldc 90, 2) := by decide +kernel
theorem dX4_flow_88 : decode cX4_flow 88 = .ok (.invokespecial 92, 3) := by decide +kernel
theorem dX4_flow_91 : decode cX4_flow 91 = .ok (.athrow, 1) := by decide +kernel
theorem dX4_flow_92 : decode cX4_flow 92 = .ok (.lload_n 3, 1) := by decide +kernel
theorem dX4_flow_93 : decode cX4_flow 93 = .ok (.invokestatic 46, 3) := by decide +kernel
theorem dX4_flow_96 : decode cX4_flow 96 = .ok (.ifCond .eq 11, 3) := by decide +kernel
theorem dX4_flow_99 : decode cX4_flow 99 = .ok (.lload 5, 2) := by decide +kernel
theorem dX4_flow_101 : decode cX4_flow 101 = .ok (.invokestatic 50, 3) := by decide +kernel
theorem dX4_flow_104 : decode cX4_flow 104 = .ok (.ifCond .ne 13, 3) := by decide +kernel
theorem dX4_flow_107 : decode cX4_flow 107 = .ok (.new 88, 3) := by decide +kernel
theorem dX4_flow_110 : decode cX4_flow 110 = .ok (.dup, 1) := by decide +kernel
theorem dX4_flow_111 : decode cX4_flow 111 = .ok (.ldc 93, 2) := by decide +kernel
theorem dX4_flow_113 : decode cX4_flow 113 = .ok (.invokespecial 92, 3) := by decide +kernel
theorem dX4_flow_116 : decode cX4_flow 116 = .ok (.athrow, 1) := by decide +kernel
theorem dX4_flow_117 : decode cX4_flow 117 = .ok (.aload_n 0, 1) := by decide +kernel
theorem dX4_flow_118 : decode cX4_flow 118 = .ok (.getfield 10, 3) := by decide +kernel
theorem dX4_flow_121 : decode cX4_flow 121 = .ok (.getfield 95, 3) := by decide +kernel
theorem dX4_flow_124 : decode cX4_flow 124 = .ok (.iload_n 1, 1) := by decide +kernel
theorem dX4_flow_125 : decode cX4_flow 125 = .ok (.baload, 1) := by decide +kernel
theorem dX4_flow_126 : decode cX4_flow 126 = .ok (.ifCond .eq 13, 3) := by decide +kernel
theorem dX4_flow_129 : decode cX4_flow 129 = .ok (.new 99, 3) := by decide +kernel
theorem dX4_flow_132 : decode cX4_flow 132 = .ok (.dup, 1) := by decide +kernel
theorem dX4_flow_133 : decode cX4_flow 133 = .ok (.ldc 101, 2) := by decide +kernel
theorem dX4_flow_135 : decode cX4_flow 135 = .ok (.invokespecial 103, 3) := by decide +kernel
theorem dX4_flow_138 : decode cX4_flow 138 = .ok (.athrow, 1) := by decide +kernel
theorem dX4_flow_139 : decode cX4_flow 139 = .ok (.aload_n 0, 1) := by decide +kernel
theorem dX4_flow_140 : decode cX4_flow 140 = .ok (.iload_n 1, 1) := by decide +kernel
theorem dX4_flow_141 : decode cX4_flow 141 = .ok (.iload_n 2, 1) := by decide +kernel
theorem dX4_flow_142 : decode cX4_flow 142 = .ok (.lload_n 3, 1) := by decide +kernel
theorem dX4_flow_143 : decode cX4_flow 143 = .ok (.lload 5, 2) := by decide +kernel
theorem dX4_flow_145 : decode cX4_flow 145 = .ok (.invokevirtual 104, 3) := by decide +kernel
theorem dX4_flow_148 : decode cX4_flow 148 = .ok (.ifCond .ne 13, 3) := by decide +kernel
theorem dX4_flow_151 : decode cX4_flow 151 = .ok (.new 99, 3) := by decide +kernel
theorem dX4_flow_154 : decode cX4_flow 154 = .ok (.dup, 1) := by decide +kernel
theorem dX4_flow_155 : decode cX4_flow 155 = .ok (.ldc 108, 2) := by decide +kernel
theorem dX4_flow_157 : decode cX4_flow 157 = .ok (.invokespecial 103, 3) := by decide +kernel
theorem dX4_flow_160 : decode cX4_flow 160 = .ok (.athrow, 1) := by decide +kernel
theorem dX4_flow_161 : decode cX4_flow 161 = .ok (.return_, 1) := by decide +kernel
theorem dX4_left_0 : decode cX4_left 0 = .ok (.aload_n 0, 1) := by decide +kernel
theorem dX4_left_1 : decode cX4_left 1 = .ok (.getfield 10, 3) := by decide +kernel
theorem dX4_left_4 : decode cX4_left 4 = .ok (.iload_n 1, 1) := by decide +kernel
theorem dX4_left_5 : decode cX4_left 5 = .ok (.invokevirtual 65, 3) := by decide +kernel
theorem dX4_left_8 : decode cX4_left 8 = .ok (.ifCond .eq 14, 3) := by decide +kernel
theorem dX4_left_11 : decode cX4_left 11 = .ok (.aload_n 0, 1) := by decide +kernel
theorem dX4_left_12 : decode cX4_left 12 = .ok (.getfield 35, 3) := by decide +kernel
theorem dX4_left_15 : decode cX4_left 15 = .ok (.iload_n 1, 1) := by decide +kernel
theorem dX4_left_16 : decode cX4_left 16 = .ok (.invokevirtual 110, 3) := by decide +kernel
theorem dX4_left_19 : decode cX4_left 19 = .ok (.goto 6, 3) := by decide +kernel
theorem dX4_left_22 : decode cX4_left 22 = .ok (.ldc2_w 114, 3) := by decide +kernel
theorem dX4_left_25 : decode cX4_left 25 = .ok (.lreturn, 1) := by decide +kernel
theorem dX4_share_0 : decode cX4_share 0 = .ok (.aload_n 0, 1) := by decide +kernel
theorem dX4_share_1 : decode cX4_share 1 = .ok (.getfield 10, 3) := by decide +kernel
theorem dX4_share_4 : decode cX4_share 4 = .ok (.iload_n 1, 1) := by decide +kernel
theorem dX4_share_5 : decode cX4_share 5 = .ok (.invokevirtual 65, 3) := by decide +kernel
theorem dX4_share_8 : decode cX4_share 8 = .ok (.ifCond .eq 23, 3) := by decide +kernel
theorem dX4_share_11 : decode cX4_share 11 = .ok (.aload_n 0, 1) := by decide +kernel
theorem dX4_share_12 : decode cX4_share 12 = .ok (.getfield 10, 3) := by decide +kernel
theorem dX4_share_15 : decode cX4_share 15 = .ok (.iload_n 2, 1) := by decide +kernel
theorem dX4_share_16 : decode cX4_share 16 = .ok (.invokevirtual 82, 3) := by decide +kernel
theorem dX4_share_19 : decode cX4_share 19 = .ok (.ifCond .eq 12, 3) := by decide +kernel
theorem dX4_share_22 : decode cX4_share 22 = .ok (.iload_n 3, 1) := by decide +kernel
theorem dX4_share_23 : decode cX4_share 23 = .ok (.ifCond .lt 8, 3) := by decide +kernel
theorem dX4_share_26 : decode cX4_share 26 = .ok (.iload_n 3, 1) := by decide +kernel
theorem dX4_share_27 : decode cX4_share 27 = .ok (.iconst 1, 1) := by decide +kernel
theorem dX4_share_28 : decode cX4_share 28 = .ok (.if_icmp .le 7, 3) := by decide +kernel
theorem dX4_share_31 : decode cX4_share 31 = .ok (.ldc2_w 114, 3) := by decide +kernel
theorem dX4_share_34 : decode cX4_share 34 = .ok (.lreturn, 1) := by decide +kernel
theorem dX4_share_35 : decode cX4_share 35 = .ok (.aload_n 0, 1) := by decide +kernel
theorem dX4_share_36 : decode cX4_share 36 = .ok (.getfield 35, 3) := by decide +kernel
theorem dX4_share_39 : decode cX4_share 39 = .ok (.iload_n 1, 1) := by decide +kernel
theorem dX4_share_40 : decode cX4_share 40 = .ok (.iload_n 2, 1) := by decide +kernel
theorem dX4_share_41 : decode cX4_share 41 = .ok (.invokevirtual 116, 3) := by decide +kernel
theorem dX4_share_44 : decode cX4_share 44 = .ok (.lstore 4, 2) := by decide +kernel
theorem dX4_share_46 : decode cX4_share 46 = .ok (.aload_n 0, 1) := by decide +kernel
theorem dX4_share_47 : decode cX4_share 47 = .ok (.getfield 35, 3) := by decide +kernel
theorem dX4_share_50 : decode cX4_share 50 = .ok (.iload_n 1, 1) := by decide +kernel
theorem dX4_share_51 : decode cX4_share 51 = .ok (.invokevirtual 110, 3) := by decide +kernel
theorem dX4_share_54 : decode cX4_share 54 = .ok (.lstore 6, 2) := by decide +kernel
theorem dX4_share_56 : decode cX4_share 56 = .ok (.lload 4, 2) := by decide +kernel
theorem dX4_share_58 : decode cX4_share 58 = .ok (.lconst 0, 1) := by decide +kernel
theorem dX4_share_59 : decode cX4_share 59 = .ok (.lcmp, 1) := by decide +kernel
theorem dX4_share_60 : decode cX4_share 60 = .ok (.ifCond .le 10, 3) := by decide +kernel
theorem dX4_share_63 : decode cX4_share 63 = .ok (.lload 6, 2) := by decide +kernel
theorem dX4_share_65 : decode cX4_share 65 = .ok (.lconst 0, 1) := by decide +kernel
theorem dX4_share_66 : decode cX4_share 66 = .ok (.lcmp, 1) := by decide +kernel
theorem dX4_share_67 : decode cX4_share 67 = .ok (.ifCond .gt 6, 3) := by decide +kernel
theorem dX4_share_70 : decode cX4_share 70 = .ok (.iload_n 3, 1) := by decide +kernel
theorem dX4_share_71 : decode cX4_share 71 = .ok (.i2l, 1) := by decide +kernel
theorem dX4_share_72 : decode cX4_share 72 = .ok (.lreturn, 1) := by decide +kernel
theorem dX4_share_73 : decode cX4_share 73 = .ok (.lload 4, 2) := by decide +kernel
theorem dX4_share_75 : decode cX4_share 75 = .ok (.lload 6, 2) := by decide +kernel
theorem dX4_share_77 : decode cX4_share 77 = .ok (.invokestatic 120, 3) := by decide +kernel
theorem dX4_share_80 : decode cX4_share 80 = .ok (.lstore 8, 2) := by decide +kernel
theorem dX4_share_82 : decode cX4_share 82 = .ok (.lload 8, 2) := by decide +kernel
theorem dX4_share_84 : decode cX4_share 84 = .ok (.lconst 0, 1) := by decide +kernel
theorem dX4_share_85 : decode cX4_share 85 = .ok (.lcmp, 1) := by decide +kernel
theorem dX4_share_86 : decode cX4_share 86 = .ok (.ifCond .gt 7, 3) := by decide +kernel
theorem dX4_share_89 : decode cX4_share 89 = .ok (.ldc2_w 114, 3) := by decide +kernel
theorem dX4_share_92 : decode cX4_share 92 = .ok (.lreturn, 1) := by decide +kernel
theorem dX4_share_93 : decode cX4_share 93 = .ok (.iload_n 3, 1) := by decide +kernel
theorem dX4_share_94 : decode cX4_share 94 = .ok (.ifCond .ne 8, 3) := by decide +kernel
theorem dX4_share_97 : decode cX4_share 97 = .ok (.lload 4, 2) := by decide +kernel
theorem dX4_share_99 : decode cX4_share 99 = .ok (.goto 5, 3) := by decide +kernel
theorem dX4_share_102 : decode cX4_share 102 = .ok (.lload 6, 2) := by decide +kernel
theorem dX4_share_104 : decode cX4_share 104 = .ok (.lload 8, 2) := by decide +kernel
theorem dX4_share_106 : decode cX4_share 106 = .ok (.ldiv, 1) := by decide +kernel
theorem dX4_share_107 : decode cX4_share 107 = .ok (.lreturn, 1) := by decide +kernel
theorem dX4_back_0 : decode cX4_back 0 = .ok (.aload_n 0, 1) := by decide +kernel
theorem dX4_back_1 : decode cX4_back 1 = .ok (.getfield 10, 3) := by decide +kernel
theorem dX4_back_4 : decode cX4_back 4 = .ok (.iload_n 1, 1) := by decide +kernel
theorem dX4_back_5 : decode cX4_back 5 = .ok (.invokevirtual 65, 3) := by decide +kernel
theorem dX4_back_8 : decode cX4_back 8 = .ok (.ifCond .eq 7, 3) := by decide +kernel
theorem dX4_back_11 : decode cX4_back 11 = .ok (.iload_n 2, 1) := by decide +kernel
theorem dX4_back_12 : decode cX4_back 12 = .ok (.ifCond .ge 5, 3) := by decide +kernel
theorem dX4_back_15 : decode cX4_back 15 = .ok (.iconst (-1), 1) := by decide +kernel
theorem dX4_back_16 : decode cX4_back 16 = .ok (.ireturn, 1) := by decide +kernel
theorem dX4_back_17 : decode cX4_back 17 = .ok (.iconst 0, 1) := by decide +kernel
theorem dX4_back_18 : decode cX4_back 18 = .ok (.istore_n 3, 1) := by decide +kernel
theorem dX4_back_19 : decode cX4_back 19 = .ok (.iconst 0, 1) := by decide +kernel
theorem dX4_back_20 : decode cX4_back 20 = .ok (.istore 4, 2) := by decide +kernel
theorem dX4_back_22 : decode cX4_back 22 = .ok (.iload 4, 2) := by decide +kernel
theorem dX4_back_24 : decode cX4_back 24 = .ok (.aload_n 0, 1) := by decide +kernel
theorem dX4_back_25 : decode cX4_back 25 = .ok (.getfield 10, 3) := by decide +kernel
theorem dX4_back_28 : decode cX4_back 28 = .ok (.getfield 124, 3) := by decide +kernel
theorem dX4_back_31 : decode cX4_back 31 = .ok (.if_icmp .ge 33, 3) := by decide +kernel
theorem dX4_back_34 : decode cX4_back 34 = .ok (.aload_n 0, 1) := by decide +kernel
theorem dX4_back_35 : decode cX4_back 35 = .ok (.getfield 35, 3) := by decide +kernel
theorem dX4_back_38 : decode cX4_back 38 = .ok (.iload 4, 2) := by decide +kernel
theorem dX4_back_40 : decode cX4_back 40 = .ok (.iload_n 1, 1) := by decide +kernel
theorem dX4_back_41 : decode cX4_back 41 = .ok (.invokevirtual 125, 3) := by decide +kernel
theorem dX4_back_44 : decode cX4_back 44 = .ok (.ifCond .eq 14, 3) := by decide +kernel
theorem dX4_back_47 : decode cX4_back 47 = .ok (.iload_n 3, 1) := by decide +kernel
theorem dX4_back_48 : decode cX4_back 48 = .ok (.iload_n 2, 1) := by decide +kernel
theorem dX4_back_49 : decode cX4_back 49 = .ok (.if_icmp .ne 6, 3) := by decide +kernel
theorem dX4_back_52 : decode cX4_back 52 = .ok (.iload 4, 2) := by decide +kernel
theorem dX4_back_54 : decode cX4_back 54 = .ok (.ireturn, 1) := by decide +kernel
theorem dX4_back_55 : decode cX4_back 55 = .ok (.iinc 3 1, 3) := by decide +kernel
theorem dX4_back_58 : decode cX4_back 58 = .ok (.iinc 4 1, 3) := by decide +kernel
theorem dX4_back_61 : decode cX4_back 61 = .ok (.goto (-39), 3) := by decide +kernel
theorem dX4_back_64 : decode cX4_back 64 = .ok (.iconst (-1), 1) := by decide +kernel
theorem dX4_back_65 : decode cX4_back 65 = .ok (.ireturn, 1) := by decide +kernel
theorem dX4_forward_0 : decode cX4_forward 0 = .ok (.aload_n 0, 1) := by decide +kernel
theorem dX4_forward_1 : decode cX4_forward 1 = .ok (.getfield 10, 3) := by decide +kernel
theorem dX4_forward_4 : decode cX4_forward 4 = .ok (.iload_n 1, 1) := by decide +kernel
theorem dX4_forward_5 : decode cX4_forward 5 = .ok (.invokevirtual 82, 3) := by decide +kernel
theorem dX4_forward_8 : decode cX4_forward 8 = .ok (.ifCond .eq 7, 3) := by decide +kernel
theorem dX4_forward_11 : decode cX4_forward 11 = .ok (.iload_n 2, 1) := by decide +kernel
theorem dX4_forward_12 : decode cX4_forward 12 = .ok (.ifCond .ge 5, 3) := by decide +kernel
theorem dX4_forward_15 : decode cX4_forward 15 = .ok (.iconst (-1), 1) := by decide +kernel
theorem dX4_forward_16 : decode cX4_forward 16 = .ok (.ireturn, 1) := by decide +kernel
theorem dX4_forward_17 : decode cX4_forward 17 = .ok (.iconst 0, 1) := by decide +kernel
theorem dX4_forward_18 : decode cX4_forward 18 = .ok (.istore_n 3, 1) := by decide +kernel
theorem dX4_forward_19 : decode cX4_forward 19 = .ok (.iconst 0, 1) := by decide +kernel
theorem dX4_forward_20 : decode cX4_forward 20 = .ok (.istore 4, 2) := by decide +kernel
theorem dX4_forward_22 : decode cX4_forward 22 = .ok (.iload 4, 2) := by decide +kernel
theorem dX4_forward_24 : decode cX4_forward 24 = .ok (.aload_n 0, 1) := by decide +kernel
theorem dX4_forward_25 : decode cX4_forward 25 = .ok (.getfield 10, 3) := by decide +kernel
theorem dX4_forward_28 : decode cX4_forward 28 = .ok (.getfield 124, 3) := by decide +kernel
theorem dX4_forward_31 : decode cX4_forward 31 = .ok (.if_icmp .ge 45, 3) := by decide +kernel
theorem dX4_forward_34 : decode cX4_forward 34 = .ok (.aload_n 0, 1) := by decide +kernel
theorem dX4_forward_35 : decode cX4_forward 35 = .ok (.getfield 10, 3) := by decide +kernel
theorem dX4_forward_38 : decode cX4_forward 38 = .ok (.iload 4, 2) := by decide +kernel
theorem dX4_forward_40 : decode cX4_forward 40 = .ok (.invokevirtual 129, 3) := by decide +kernel
theorem dX4_forward_43 : decode cX4_forward 43 = .ok (.ifCond .eq 27, 3) := by decide +kernel
theorem dX4_forward_46 : decode cX4_forward 46 = .ok (.aload_n 0, 1) := by decide +kernel
theorem dX4_forward_47 : decode cX4_forward 47 = .ok (.getfield 35, 3) := by decide +kernel
theorem dX4_forward_50 : decode cX4_forward 50 = .ok (.iload_n 1, 1) := by decide +kernel
theorem dX4_forward_51 : decode cX4_forward 51 = .ok (.iload 4, 2) := by decide +kernel
theorem dX4_forward_53 : decode cX4_forward 53 = .ok (.invokevirtual 125, 3) := by decide +kernel
theorem dX4_forward_56 : decode cX4_forward 56 = .ok (.ifCond .eq 14, 3) := by decide +kernel
theorem dX4_forward_59 : decode cX4_forward 59 = .ok (.iload_n 3, 1) := by decide +kernel
theorem dX4_forward_60 : decode cX4_forward 60 = .ok (.iload_n 2, 1) := by decide +kernel
theorem dX4_forward_61 : decode cX4_forward 61 = .ok (.if_icmp .ne 6, 3) := by decide +kernel
theorem dX4_forward_64 : decode cX4_forward 64 = .ok (.iload 4, 2) := by decide +kernel
theorem dX4_forward_66 : decode cX4_forward 66 = .ok (.ireturn, 1) := by decide +kernel
theorem dX4_forward_67 : decode cX4_forward 67 = .ok (.iinc 3 1, 3) := by decide +kernel
theorem dX4_forward_70 : decode cX4_forward 70 = .ok (.iinc 4 1, 3) := by decide +kernel
theorem dX4_forward_73 : decode cX4_forward 73 = .ok (.goto (-51), 3) := by decide +kernel
theorem dX4_forward_76 : decode cX4_forward 76 = .ok (.iconst (-1), 1) := by decide +kernel
theorem dX4_forward_77 : decode cX4_forward 77 = .ok (.ireturn, 1) := by decide +kernel
theorem dX4_place_0 : decode cX4_place 0 = .ok (.aload_n 0, 1) := by decide +kernel
theorem dX4_place_1 : decode cX4_place 1 = .ok (.getfield 10, 3) := by decide +kernel
theorem dX4_place_4 : decode cX4_place 4 = .ok (.iload_n 1, 1) := by decide +kernel
theorem dX4_place_5 : decode cX4_place 5 = .ok (.invokevirtual 129, 3) := by decide +kernel
theorem dX4_place_8 : decode cX4_place 8 = .ok (.ifCond .eq 25, 3) := by decide +kernel
theorem dX4_place_11 : decode cX4_place 11 = .ok (.iload_n 2, 1) := by decide +kernel
theorem dX4_place_12 : decode cX4_place 12 = .ok (.ifCond .lt 21, 3) := by decide +kernel
theorem dX4_place_15 : decode cX4_place 15 = .ok (.iload_n 2, 1) := by decide +kernel
theorem dX4_place_16 : decode cX4_place 16 = .ok (.sipush 1000, 3) := by decide +kernel
theorem dX4_place_19 : decode cX4_place 19 = .ok (.if_icmp .ge 14, 3) := by decide +kernel
theorem dX4_place_22 : decode cX4_place 22 = .ok (.iload_n 3, 1) := by decide +kernel
theorem dX4_place_23 : decode cX4_place 23 = .ok (.ifCond .lt 10, 3) := by decide +kernel
theorem dX4_place_26 : decode cX4_place 26 = .ok (.iload_n 3, 1) := by decide +kernel
theorem dX4_place_27 : decode cX4_place 27 = .ok (.sipush 1000, 3) := by decide +kernel
theorem dX4_place_30 : decode cX4_place 30 = .ok (.if_icmp .lt 5, 3) := by decide +kernel
theorem dX4_place_33 : decode cX4_place 33 = .ok (.iconst 0, 1) := by decide +kernel
theorem dX4_place_34 : decode cX4_place 34 = .ok (.ireturn, 1) := by decide +kernel
theorem dX4_place_35 : decode cX4_place 35 = .ok (.aload_n 0, 1) := by decide +kernel
theorem dX4_place_36 : decode cX4_place 36 = .ok (.getfield 10, 3) := by decide +kernel
theorem dX4_place_39 : decode cX4_place 39 = .ok (.getfield 132, 3) := by decide +kernel
theorem dX4_place_42 : decode cX4_place 42 = .ok (.iload_n 1, 1) := by decide +kernel
theorem dX4_place_43 : decode cX4_place 43 = .ok (.iload_n 3, 1) := by decide +kernel
theorem dX4_place_44 : decode cX4_place 44 = .ok (.sipush 1000, 3) := by decide +kernel
theorem dX4_place_47 : decode cX4_place 47 = .ok (.imul, 1) := by decide +kernel
theorem dX4_place_48 : decode cX4_place 48 = .ok (.iload_n 2, 1) := by decide +kernel
theorem dX4_place_49 : decode cX4_place 49 = .ok (.iadd, 1) := by decide +kernel
theorem dX4_place_50 : decode cX4_place 50 = .ok (.iastore, 1) := by decide +kernel
theorem dX4_place_51 : decode cX4_place 51 = .ok (.iconst 1, 1) := by decide +kernel
theorem dX4_place_52 : decode cX4_place 52 = .ok (.ireturn, 1) := by decide +kernel
theorem dX4_recall_0 : decode cX4_recall 0 = .ok (.aload_n 0, 1) := by decide +kernel
theorem dX4_recall_1 : decode cX4_recall 1 = .ok (.getfield 10, 3) := by decide +kernel
theorem dX4_recall_4 : decode cX4_recall 4 = .ok (.iload_n 1, 1) := by decide +kernel
theorem dX4_recall_5 : decode cX4_recall 5 = .ok (.invokevirtual 82, 3) := by decide +kernel
theorem dX4_recall_8 : decode cX4_recall 8 = .ok (.ifCond .ne 5, 3) := by decide +kernel
theorem dX4_recall_11 : decode cX4_recall 11 = .ok (.iconst (-1), 1) := by decide +kernel
theorem dX4_recall_12 : decode cX4_recall 12 = .ok (.ireturn, 1) := by decide +kernel
theorem dX4_recall_13 : decode cX4_recall 13 = .ok (.aload_n 0, 1) := by decide +kernel
theorem dX4_recall_14 : decode cX4_recall 14 = .ok (.getfield 26, 3) := by decide +kernel
theorem dX4_recall_17 : decode cX4_recall 17 = .ok (.iconst 0, 1) := by decide +kernel
theorem dX4_recall_18 : decode cX4_recall 18 = .ok (.putfield 136, 3) := by decide +kernel
theorem dX4_recall_21 : decode cX4_recall 21 = .ok (.iconst 0, 1) := by decide +kernel
theorem dX4_recall_22 : decode cX4_recall 22 = .ok (.istore_n 2, 1) := by decide +kernel
theorem dX4_recall_23 : decode cX4_recall 23 = .ok (.iload_n 2, 1) := by decide +kernel
theorem dX4_recall_24 : decode cX4_recall 24 = .ok (.aload_n 0, 1) := by decide +kernel
theorem dX4_recall_25 : decode cX4_recall 25 = .ok (.getfield 10, 3) := by decide +kernel
theorem dX4_recall_28 : decode cX4_recall 28 = .ok (.getfield 124, 3) := by decide +kernel
theorem dX4_recall_31 : decode cX4_recall 31 = .ok (.if_icmp .ge 70, 3) := by decide +kernel
theorem dX4_recall_34 : decode cX4_recall 34 = .ok (.aload_n 0, 1) := by decide +kernel
theorem dX4_recall_35 : decode cX4_recall 35 = .ok (.getfield 10, 3) := by decide +kernel
theorem dX4_recall_38 : decode cX4_recall 38 = .ok (.iload_n 2, 1) := by decide +kernel
theorem dX4_recall_39 : decode cX4_recall 39 = .ok (.invokevirtual 129, 3) := by decide +kernel
theorem dX4_recall_42 : decode cX4_recall 42 = .ok (.ifCond .eq 53, 3) := by decide +kernel
theorem dX4_recall_45 : decode cX4_recall 45 = .ok (.aload_n 0, 1) := by decide +kernel
theorem dX4_recall_46 : decode cX4_recall 46 = .ok (.getfield 10, 3) := by decide +kernel
theorem dX4_recall_49 : decode cX4_recall 49 = .ok (.getfield 132, 3) := by decide +kernel
theorem dX4_recall_52 : decode cX4_recall 52 = .ok (.iload_n 2, 1) := by decide +kernel
theorem dX4_recall_53 : decode cX4_recall 53 = .ok (.iaload, 1) := by decide +kernel
theorem dX4_recall_54 : decode cX4_recall 54 = .ok (.iconst (-1), 1) := by decide +kernel
theorem dX4_recall_55 : decode cX4_recall 55 = .ok (.if_icmp .eq 40, 3) := by decide +kernel
theorem dX4_recall_58 : decode cX4_recall 58 = .ok (.aload_n 0, 1) := by decide +kernel
theorem dX4_recall_59 : decode cX4_recall 59 = .ok (.getfield 35, 3) := by decide +kernel
theorem dX4_recall_62 : decode cX4_recall 62 = .ok (.iload_n 1, 1) := by decide +kernel
theorem dX4_recall_63 : decode cX4_recall 63 = .ok (.iload_n 2, 1) := by decide +kernel
theorem dX4_recall_64 : decode cX4_recall 64 = .ok (.invokevirtual 125, 3) := by decide +kernel
theorem dX4_recall_67 : decode cX4_recall 67 = .ok (.ifCond .eq 28, 3) := by decide +kernel
theorem dX4_recall_70 : decode cX4_recall 70 = .ok (.aload_n 0, 1) := by decide +kernel
theorem dX4_recall_71 : decode cX4_recall 71 = .ok (.getfield 26, 3) := by decide +kernel
theorem dX4_recall_74 : decode cX4_recall 74 = .ok (.aload_n 0, 1) := by decide +kernel
theorem dX4_recall_75 : decode cX4_recall 75 = .ok (.getfield 10, 3) := by decide +kernel
theorem dX4_recall_78 : decode cX4_recall 78 = .ok (.getfield 132, 3) := by decide +kernel
theorem dX4_recall_81 : decode cX4_recall 81 = .ok (.iload_n 2, 1) := by decide +kernel
theorem dX4_recall_82 : decode cX4_recall 82 = .ok (.iaload, 1) := by decide +kernel
theorem dX4_recall_83 : decode cX4_recall 83 = .ok (.aload_n 0, 1) := by decide +kernel
theorem dX4_recall_84 : decode cX4_recall 84 = .ok (.getfield 35, 3) := by decide +kernel
theorem dX4_recall_87 : decode cX4_recall 87 = .ok (.iload_n 2, 1) := by decide +kernel
theorem dX4_recall_88 : decode cX4_recall 88 = .ok (.iload_n 1, 1) := by decide +kernel
theorem dX4_recall_89 : decode cX4_recall 89 = .ok (.invokevirtual 116, 3) := by decide +kernel
theorem dX4_recall_92 : decode cX4_recall 92 = .ok (.invokevirtual 137, 3) := by decide +kernel
theorem dX4_recall_95 : decode cX4_recall 95 = .ok (.iinc 2 1, 3) := by decide +kernel
theorem dX4_recall_98 : decode cX4_recall 98 = .ok (.goto (-75), 3) := by decide +kernel
theorem dX4_recall_101 : decode cX4_recall 101 = .ok (.aload_n 0, 1) := by decide +kernel
theorem dX4_recall_102 : decode cX4_recall 102 = .ok (.getfield 26, 3) := by decide +kernel
theorem dX4_recall_105 : decode cX4_recall 105 = .ok (.getfield 136, 3) := by decide +kernel
theorem dX4_recall_108 : decode cX4_recall 108 = .ok (.ireturn, 1) := by decide +kernel
theorem dX4_recalled_0 : decode cX4_recalled 0 = .ok (.iload_n 1, 1) := by decide +kernel
theorem dX4_recalled_1 : decode cX4_recalled 1 = .ok (.ifCond .lt 14, 3) := by decide +kernel
theorem dX4_recalled_4 : decode cX4_recalled 4 = .ok (.iload_n 1, 1) := by decide +kernel
theorem dX4_recalled_5 : decode cX4_recalled 5 = .ok (.aload_n 0, 1) := by decide +kernel
theorem dX4_recalled_6 : decode cX4_recalled 6 = .ok (.getfield 26, 3) := by decide +kernel
theorem dX4_recalled_9 : decode cX4_recalled 9 = .ok (.getfield 136, 3) := by decide +kernel
theorem dX4_recalled_12 : decode cX4_recalled 12 = .ok (.if_icmp .lt 5, 3) := by decide +kernel
theorem dX4_recalled_15 : decode cX4_recalled 15 = .ok (.iconst (-1), 1) := by decide +kernel
theorem dX4_recalled_16 : decode cX4_recalled 16 = .ok (.ireturn, 1) := by decide +kernel
theorem dX4_recalled_17 : decode cX4_recalled 17 = .ok (.iload_n 2, 1) := by decide +kernel
theorem dX4_recalled_18 : decode cX4_recalled 18 = .ok (.tableswitch 85 0 3 #[30, 44, 58, 75], 30) := by decide +kernel
theorem dX4_recalled_48 : decode cX4_recalled 48 = .ok (.aload_n 0, 1) := by decide +kernel
theorem dX4_recalled_49 : decode cX4_recalled 49 = .ok (.getfield 26, 3) := by decide +kernel
theorem dX4_recalled_52 : decode cX4_recalled 52 = .ok (.getfield 141, 3) := by decide +kernel
theorem dX4_recalled_55 : decode cX4_recalled 55 = .ok (.iload_n 1, 1) := by decide +kernel
theorem dX4_recalled_56 : decode cX4_recalled 56 = .ok (.iaload, 1) := by decide +kernel
theorem dX4_recalled_57 : decode cX4_recalled 57 = .ok (.sipush 1000, 3) := by decide +kernel
theorem dX4_recalled_60 : decode cX4_recalled 60 = .ok (.irem, 1) := by decide +kernel
theorem dX4_recalled_61 : decode cX4_recalled 61 = .ok (.ireturn, 1) := by decide +kernel
theorem dX4_recalled_62 : decode cX4_recalled 62 = .ok (.aload_n 0, 1) := by decide +kernel
theorem dX4_recalled_63 : decode cX4_recalled 63 = .ok (.getfield 26, 3) := by decide +kernel
theorem dX4_recalled_66 : decode cX4_recalled 66 = .ok (.getfield 141, 3) := by decide +kernel
theorem dX4_recalled_69 : decode cX4_recalled 69 = .ok (.iload_n 1, 1) := by decide +kernel
theorem dX4_recalled_70 : decode cX4_recalled 70 = .ok (.iaload, 1) := by decide +kernel
theorem dX4_recalled_71 : decode cX4_recalled 71 = .ok (.sipush 1000, 3) := by decide +kernel
theorem dX4_recalled_74 : decode cX4_recalled 74 = .ok (.idiv, 1) := by decide +kernel
theorem dX4_recalled_75 : decode cX4_recalled 75 = .ok (.ireturn, 1) := by decide +kernel
theorem dX4_recalled_76 : decode cX4_recalled 76 = .ok (.aload_n 0, 1) := by decide +kernel
theorem dX4_recalled_77 : decode cX4_recalled 77 = .ok (.getfield 26, 3) := by decide +kernel
theorem dX4_recalled_80 : decode cX4_recalled 80 = .ok (.getfield 142, 3) := by decide +kernel
theorem dX4_recalled_83 : decode cX4_recalled 83 = .ok (.iload_n 1, 1) := by decide +kernel
theorem dX4_recalled_84 : decode cX4_recalled 84 = .ok (.laload, 1) := by decide +kernel
theorem dX4_recalled_85 : decode cX4_recalled 85 = .ok (.ldc2_w 148, 3) := by decide +kernel
theorem dX4_recalled_88 : decode cX4_recalled 88 = .ok (.invokestatic 150, 3) := by decide +kernel
theorem dX4_recalled_91 : decode cX4_recalled 91 = .ok (.l2i, 1) := by decide +kernel
theorem dX4_recalled_92 : decode cX4_recalled 92 = .ok (.ireturn, 1) := by decide +kernel
theorem dX4_recalled_93 : decode cX4_recalled 93 = .ok (.aload_n 0, 1) := by decide +kernel
theorem dX4_recalled_94 : decode cX4_recalled 94 = .ok (.getfield 26, 3) := by decide +kernel
theorem dX4_recalled_97 : decode cX4_recalled 97 = .ok (.getfield 155, 3) := by decide +kernel
theorem dX4_recalled_100 : decode cX4_recalled 100 = .ok (.iload_n 1, 1) := by decide +kernel
theorem dX4_recalled_101 : decode cX4_recalled 101 = .ok (.iaload, 1) := by decide +kernel
theorem dX4_recalled_102 : decode cX4_recalled 102 = .ok (.ireturn, 1) := by decide +kernel
theorem dX4_recalled_103 : decode cX4_recalled 103 = .ok (.iconst (-1), 1) := by decide +kernel
theorem dX4_recalled_104 : decode cX4_recalled 104 = .ok (.ireturn, 1) := by decide +kernel
theorem dX4_hold_0 : decode cX4_hold 0 = .ok (.aload_n 0, 1) := by decide +kernel
theorem dX4_hold_1 : decode cX4_hold 1 = .ok (.getfield 10, 3) := by decide +kernel
theorem dX4_hold_4 : decode cX4_hold 4 = .ok (.iload_n 1, 1) := by decide +kernel
theorem dX4_hold_5 : decode cX4_hold 5 = .ok (.invokevirtual 65, 3) := by decide +kernel
theorem dX4_hold_8 : decode cX4_hold 8 = .ok (.ifCond .eq 16, 3) := by decide +kernel
theorem dX4_hold_11 : decode cX4_hold 11 = .ok (.aload_n 0, 1) := by decide +kernel
theorem dX4_hold_12 : decode cX4_hold 12 = .ok (.getfield 10, 3) := by decide +kernel
theorem dX4_hold_15 : decode cX4_hold 15 = .ok (.getfield 95, 3) := by decide +kernel
theorem dX4_hold_18 : decode cX4_hold 18 = .ok (.iload_n 1, 1) := by decide +kernel
theorem dX4_hold_19 : decode cX4_hold 19 = .ok (.baload, 1) := by decide +kernel
theorem dX4_hold_20 : decode cX4_hold 20 = .ok (.iload_n 2, 1) := by decide +kernel
theorem dX4_hold_21 : decode cX4_hold 21 = .ok (.if_icmp .ne 5, 3) := by decide +kernel
theorem dX4_hold_24 : decode cX4_hold 24 = .ok (.iconst 0, 1) := by decide +kernel
theorem dX4_hold_25 : decode cX4_hold 25 = .ok (.ireturn, 1) := by decide +kernel
theorem dX4_hold_26 : decode cX4_hold 26 = .ok (.aload_n 0, 1) := by decide +kernel
theorem dX4_hold_27 : decode cX4_hold 27 = .ok (.getfield 10, 3) := by decide +kernel
theorem dX4_hold_30 : decode cX4_hold 30 = .ok (.getfield 95, 3) := by decide +kernel
theorem dX4_hold_33 : decode cX4_hold 33 = .ok (.iload_n 1, 1) := by decide +kernel
theorem dX4_hold_34 : decode cX4_hold 34 = .ok (.iload_n 2, 1) := by decide +kernel
theorem dX4_hold_35 : decode cX4_hold 35 = .ok (.bastore, 1) := by decide +kernel
theorem dX4_hold_36 : decode cX4_hold 36 = .ok (.iconst 1, 1) := by decide +kernel
theorem dX4_hold_37 : decode cX4_hold 37 = .ok (.ireturn, 1) := by decide +kernel
theorem dX4_correct_0 : decode cX4_correct 0 = .ok (.iload_n 1, 1) := by decide +kernel
theorem dX4_correct_1 : decode cX4_correct 1 = .ok (.ifCond .lt 28, 3) := by decide +kernel
theorem dX4_correct_4 : decode cX4_correct 4 = .ok (.iload_n 1, 1) := by decide +kernel
theorem dX4_correct_5 : decode cX4_correct 5 = .ok (.aload_n 0, 1) := by decide +kernel
theorem dX4_correct_6 : decode cX4_correct 6 = .ok (.getfield 19, 3) := by decide +kernel
theorem dX4_correct_9 : decode cX4_correct 9 = .ok (.getfield 76, 3) := by decide +kernel
theorem dX4_correct_12 : decode cX4_correct 12 = .ok (.if_icmp .ge 17, 3) := by decide +kernel
theorem dX4_correct_15 : decode cX4_correct 15 = .ok (.lload_n 2, 1) := by decide +kernel
theorem dX4_correct_16 : decode cX4_correct 16 = .ok (.lconst 0, 1) := by decide +kernel
theorem dX4_correct_17 : decode cX4_correct 17 = .ok (.lcmp, 1) := by decide +kernel
theorem dX4_correct_18 : decode cX4_correct 18 = .ok (.ifCond .lt 11, 3) := by decide +kernel
theorem dX4_correct_21 : decode cX4_correct 21 = .ok (.lload_n 2, 1) := by decide +kernel
theorem dX4_correct_22 : decode cX4_correct 22 = .ok (.ldc2_w 158, 3) := by decide +kernel
theorem dX4_correct_25 : decode cX4_correct 25 = .ok (.lcmp, 1) := by decide +kernel
theorem dX4_correct_26 : decode cX4_correct 26 = .ok (.ifCond .le 5, 3) := by decide +kernel
theorem dX4_correct_29 : decode cX4_correct 29 = .ok (.iconst (-1), 1) := by decide +kernel
theorem dX4_correct_30 : decode cX4_correct 30 = .ok (.ireturn, 1) := by decide +kernel
theorem dX4_correct_31 : decode cX4_correct 31 = .ok (.lload 4, 2) := by decide +kernel
theorem dX4_correct_33 : decode cX4_correct 33 = .ok (.invokestatic 50, 3) := by decide +kernel
theorem dX4_correct_36 : decode cX4_correct 36 = .ok (.ifCond .eq 13, 3) := by decide +kernel
theorem dX4_correct_39 : decode cX4_correct 39 = .ok (.lload 4, 2) := by decide +kernel
theorem dX4_correct_41 : decode cX4_correct 41 = .ok (.aload_n 0, 1) := by decide +kernel
theorem dX4_correct_42 : decode cX4_correct 42 = .ok (.getfield 42, 3) := by decide +kernel
theorem dX4_correct_45 : decode cX4_correct 45 = .ok (.lcmp, 1) := by decide +kernel
theorem dX4_correct_46 : decode cX4_correct 46 = .ok (.ifCond .ge 5, 3) := by decide +kernel
theorem dX4_correct_49 : decode cX4_correct 49 = .ok (.iconst (-1), 1) := by decide +kernel
theorem dX4_correct_50 : decode cX4_correct 50 = .ok (.ireturn, 1) := by decide +kernel
theorem dX4_correct_51 : decode cX4_correct 51 = .ok (.aload_n 0, 1) := by decide +kernel
theorem dX4_correct_52 : decode cX4_correct 52 = .ok (.getfield 19, 3) := by decide +kernel
theorem dX4_correct_55 : decode cX4_correct 55 = .ok (.getfield 160, 3) := by decide +kernel
theorem dX4_correct_58 : decode cX4_correct 58 = .ok (.iload_n 1, 1) := by decide +kernel
theorem dX4_correct_59 : decode cX4_correct 59 = .ok (.laload, 1) := by decide +kernel
theorem dX4_correct_60 : decode cX4_correct 60 = .ok (.lstore 6, 2) := by decide +kernel
theorem dX4_correct_62 : decode cX4_correct 62 = .ok (.lload_n 2, 1) := by decide +kernel
theorem dX4_correct_63 : decode cX4_correct 63 = .ok (.lload 6, 2) := by decide +kernel
theorem dX4_correct_65 : decode cX4_correct 65 = .ok (.lcmp, 1) := by decide +kernel
theorem dX4_correct_66 : decode cX4_correct 66 = .ok (.ifCond .le 25, 3) := by decide +kernel
theorem dX4_correct_69 : decode cX4_correct 69 = .ok (.aload_n 0, 1) := by decide +kernel
theorem dX4_correct_70 : decode cX4_correct 70 = .ok (.getfield 10, 3) := by decide +kernel
theorem dX4_correct_73 : decode cX4_correct 73 = .ok (.getfield 95, 3) := by decide +kernel
theorem dX4_correct_76 : decode cX4_correct 76 = .ok (.aload_n 0, 1) := by decide +kernel
theorem dX4_correct_77 : decode cX4_correct 77 = .ok (.getfield 19, 3) := by decide +kernel
theorem dX4_correct_80 : decode cX4_correct 80 = .ok (.getfield 163, 3) := by decide +kernel
theorem dX4_correct_83 : decode cX4_correct 83 = .ok (.iload_n 1, 1) := by decide +kernel
theorem dX4_correct_84 : decode cX4_correct 84 = .ok (.iaload, 1) := by decide +kernel
theorem dX4_correct_85 : decode cX4_correct 85 = .ok (.baload, 1) := by decide +kernel
theorem dX4_correct_86 : decode cX4_correct 86 = .ok (.ifCond .eq 5, 3) := by decide +kernel
theorem dX4_correct_89 : decode cX4_correct 89 = .ok (.iconst (-1), 1) := by decide +kernel
theorem dX4_correct_90 : decode cX4_correct 90 = .ok (.ireturn, 1) := by decide +kernel
theorem dX4_correct_91 : decode cX4_correct 91 = .ok (.aload_n 0, 1) := by decide +kernel
theorem dX4_correct_92 : decode cX4_correct 92 = .ok (.getfield 19, 3) := by decide +kernel
theorem dX4_correct_95 : decode cX4_correct 95 = .ok (.getfield 160, 3) := by decide +kernel
theorem dX4_correct_98 : decode cX4_correct 98 = .ok (.iload_n 1, 1) := by decide +kernel
theorem dX4_correct_99 : decode cX4_correct 99 = .ok (.lload_n 2, 1) := by decide +kernel
theorem dX4_correct_100 : decode cX4_correct 100 = .ok (.lastore, 1) := by decide +kernel
theorem dX4_correct_101 : decode cX4_correct 101 = .ok (.aload_n 0, 1) := by decide +kernel
theorem dX4_correct_102 : decode cX4_correct 102 = .ok (.getfield 39, 3) := by decide +kernel
theorem dX4_correct_105 : decode cX4_correct 105 = .ok (.aload_n 0, 1) := by decide +kernel
theorem dX4_correct_106 : decode cX4_correct 106 = .ok (.getfield 19, 3) := by decide +kernel
theorem dX4_correct_109 : decode cX4_correct 109 = .ok (.invokevirtual 166, 3) := by decide +kernel
theorem dX4_correct_112 : decode cX4_correct 112 = .ok (.ifCond .ne 16, 3) := by decide +kernel
theorem dX4_correct_115 : decode cX4_correct 115 = .ok (.aload_n 0, 1) := by decide +kernel
theorem dX4_correct_116 : decode cX4_correct 116 = .ok (.getfield 19, 3) := by decide +kernel
theorem dX4_correct_119 : decode cX4_correct 119 = .ok (.getfield 160, 3) := by decide +kernel
theorem dX4_correct_122 : decode cX4_correct 122 = .ok (.iload_n 1, 1) := by decide +kernel
theorem dX4_correct_123 : decode cX4_correct 123 = .ok (.lload 6, 2) := by decide +kernel
theorem dX4_correct_125 : decode cX4_correct 125 = .ok (.lastore, 1) := by decide +kernel
theorem dX4_correct_126 : decode cX4_correct 126 = .ok (.iconst (-1), 1) := by decide +kernel
theorem dX4_correct_127 : decode cX4_correct 127 = .ok (.ireturn, 1) := by decide +kernel
theorem dX4_correct_128 : decode cX4_correct 128 = .ok (.aload_n 0, 1) := by decide +kernel
theorem dX4_correct_129 : decode cX4_correct 129 = .ok (.lload 4, 2) := by decide +kernel
theorem dX4_correct_131 : decode cX4_correct 131 = .ok (.putfield 42, 3) := by decide +kernel
theorem dX4_correct_134 : decode cX4_correct 134 = .ok (.aload_n 0, 1) := by decide +kernel
theorem dX4_correct_135 : decode cX4_correct 135 = .ok (.invokevirtual 170, 3) := by decide +kernel
theorem dX4_correct_138 : decode cX4_correct 138 = .ok (.aload_n 0, 1) := by decide +kernel
theorem dX4_correct_139 : decode cX4_correct 139 = .ok (.getfield 35, 3) := by decide +kernel
theorem dX4_correct_142 : decode cX4_correct 142 = .ok (.aload_n 0, 1) := by decide +kernel
theorem dX4_correct_143 : decode cX4_correct 143 = .ok (.getfield 39, 3) := by decide +kernel
theorem dX4_correct_146 : decode cX4_correct 146 = .ok (.invokevirtual 173, 3) := by decide +kernel
theorem dX4_correct_149 : decode cX4_correct 149 = .ok (.ireturn, 1) := by decide +kernel
theorem dX4_top_0 : decode cX4_top 0 = .ok (.aload_n 0, 1) := by decide +kernel
theorem dX4_top_1 : decode cX4_top 1 = .ok (.getfield 10, 3) := by decide +kernel
theorem dX4_top_4 : decode cX4_top 4 = .ok (.iload_n 1, 1) := by decide +kernel
theorem dX4_top_5 : decode cX4_top 5 = .ok (.invokevirtual 129, 3) := by decide +kernel
theorem dX4_top_8 : decode cX4_top 8 = .ok (.ifCond .eq 21, 3) := by decide +kernel
theorem dX4_top_11 : decode cX4_top 11 = .ok (.aload_n 0, 1) := by decide +kernel
theorem dX4_top_12 : decode cX4_top 12 = .ok (.getfield 10, 3) := by decide +kernel
theorem dX4_top_15 : decode cX4_top 15 = .ok (.iload_n 1, 1) := by decide +kernel
theorem dX4_top_16 : decode cX4_top 16 = .ok (.invokevirtual 85, 3) := by decide +kernel
theorem dX4_top_19 : decode cX4_top 19 = .ok (.ifCond .ne 10, 3) := by decide +kernel
theorem dX4_top_22 : decode cX4_top 22 = .ok (.lload_n 3, 1) := by decide +kernel
theorem dX4_top_23 : decode cX4_top 23 = .ok (.invokestatic 46, 3) := by decide +kernel
theorem dX4_top_26 : decode cX4_top 26 = .ok (.ifCond .ne 5, 3) := by decide +kernel
theorem dX4_top_29 : decode cX4_top 29 = .ok (.iconst (-1), 1) := by decide +kernel
theorem dX4_top_30 : decode cX4_top 30 = .ok (.ireturn, 1) := by decide +kernel
theorem dX4_top_31 : decode cX4_top 31 = .ok (.iload_n 2, 1) := by decide +kernel
theorem dX4_top_32 : decode cX4_top 32 = .ok (.iconst (-1), 1) := by decide +kernel
theorem dX4_top_33 : decode cX4_top 33 = .ok (.if_icmp .eq 16, 3) := by decide +kernel
theorem dX4_top_36 : decode cX4_top 36 = .ok (.aload_n 0, 1) := by decide +kernel
theorem dX4_top_37 : decode cX4_top 37 = .ok (.getfield 10, 3) := by decide +kernel
theorem dX4_top_40 : decode cX4_top 40 = .ok (.iload_n 2, 1) := by decide +kernel
theorem dX4_top_41 : decode cX4_top 41 = .ok (.invokevirtual 82, 3) := by decide +kernel
theorem dX4_top_44 : decode cX4_top 44 = .ok (.ifCond .ne 5, 3) := by decide +kernel
theorem dX4_top_47 : decode cX4_top 47 = .ok (.iconst (-1), 1) := by decide +kernel
theorem dX4_top_48 : decode cX4_top 48 = .ok (.ireturn, 1) := by decide +kernel
theorem dX4_top_49 : decode cX4_top 49 = .ok (.aload_n 0, 1) := by decide +kernel
theorem dX4_top_50 : decode cX4_top 50 = .ok (.getfield 19, 3) := by decide +kernel
theorem dX4_top_53 : decode cX4_top 53 = .ok (.invokevirtual 177, 3) := by decide +kernel
theorem dX4_top_56 : decode cX4_top 56 = .ok (.lstore 5, 2) := by decide +kernel
theorem dX4_top_58 : decode cX4_top 58 = .ok (.aload_n 0, 1) := by decide +kernel
theorem dX4_top_59 : decode cX4_top 59 = .ok (.iload_n 2, 1) := by decide +kernel
theorem dX4_top_60 : decode cX4_top 60 = .ok (.lload_n 3, 1) := by decide +kernel
theorem dX4_top_61 : decode cX4_top 61 = .ok (.lload 5, 2) := by decide +kernel
theorem dX4_top_63 : decode cX4_top 63 = .ok (.invokevirtual 181, 3) := by decide +kernel
theorem dX4_top_66 : decode cX4_top 66 = .ok (.istore 7, 2) := by decide +kernel
theorem dX4_top_68 : decode cX4_top 68 = .ok (.iload 7, 2) := by decide +kernel
theorem dX4_top_70 : decode cX4_top 70 = .ok (.iconst (-1), 1) := by decide +kernel
theorem dX4_top_71 : decode cX4_top 71 = .ok (.if_icmp .eq 19, 3) := by decide +kernel
theorem dX4_top_74 : decode cX4_top 74 = .ok (.aload_n 0, 1) := by decide +kernel
theorem dX4_top_75 : decode cX4_top 75 = .ok (.getfield 19, 3) := by decide +kernel
theorem dX4_top_78 : decode cX4_top 78 = .ok (.getfield 76, 3) := by decide +kernel
theorem dX4_top_81 : decode cX4_top 81 = .ok (.iload 7, 2) := by decide +kernel
theorem dX4_top_83 : decode cX4_top 83 = .ok (.iadd, 1) := by decide +kernel
theorem dX4_top_84 : decode cX4_top 84 = .ok (.sipush 400, 3) := by decide +kernel
theorem dX4_top_87 : decode cX4_top 87 = .ok (.if_icmp .le 5, 3) := by decide +kernel
theorem dX4_top_90 : decode cX4_top 90 = .ok (.iconst (-1), 1) := by decide +kernel
theorem dX4_top_91 : decode cX4_top 91 = .ok (.ireturn, 1) := by decide +kernel
theorem dX4_top_92 : decode cX4_top 92 = .ok (.aload_n 0, 1) := by decide +kernel
theorem dX4_top_93 : decode cX4_top 93 = .ok (.iload_n 1, 1) := by decide +kernel
theorem dX4_top_94 : decode cX4_top 94 = .ok (.iload_n 2, 1) := by decide +kernel
theorem dX4_top_95 : decode cX4_top 95 = .ok (.lload_n 3, 1) := by decide +kernel
theorem dX4_top_96 : decode cX4_top 96 = .ok (.lload 5, 2) := by decide +kernel
theorem dX4_top_98 : decode cX4_top 98 = .ok (.invokevirtual 185, 3) := by decide +kernel
theorem dX4_top_101 : decode cX4_top 101 = .ok (.iload 7, 2) := by decide +kernel
theorem dX4_top_103 : decode cX4_top 103 = .ok (.ireturn, 1) := by decide +kernel
theorem dX4_whole_0 : decode cX4_whole 0 = .ok (.aload_n 0, 1) := by decide +kernel
theorem dX4_whole_1 : decode cX4_whole 1 = .ok (.getfield 10, 3) := by decide +kernel
theorem dX4_whole_4 : decode cX4_whole 4 = .ok (.iload_n 1, 1) := by decide +kernel
theorem dX4_whole_5 : decode cX4_whole 5 = .ok (.invokevirtual 65, 3) := by decide +kernel
theorem dX4_whole_8 : decode cX4_whole 8 = .ok (.ifCond .eq 27, 3) := by decide +kernel
theorem dX4_whole_11 : decode cX4_whole 11 = .ok (.aload_n 0, 1) := by decide +kernel
theorem dX4_whole_12 : decode cX4_whole 12 = .ok (.getfield 35, 3) := by decide +kernel
theorem dX4_whole_15 : decode cX4_whole 15 = .ok (.iload_n 1, 1) := by decide +kernel
theorem dX4_whole_16 : decode cX4_whole 16 = .ok (.invokevirtual 189, 3) := by decide +kernel
theorem dX4_whole_19 : decode cX4_whole 19 = .ok (.aload_n 0, 1) := by decide +kernel
theorem dX4_whole_20 : decode cX4_whole 20 = .ok (.getfield 35, 3) := by decide +kernel
theorem dX4_whole_23 : decode cX4_whole 23 = .ok (.iload_n 1, 1) := by decide +kernel
theorem dX4_whole_24 : decode cX4_whole 24 = .ok (.invokevirtual 110, 3) := by decide +kernel
theorem dX4_whole_27 : decode cX4_whole 27 = .ok (.lcmp, 1) := by decide +kernel
theorem dX4_whole_28 : decode cX4_whole 28 = .ok (.ifCond .ne 7, 3) := by decide +kernel
theorem dX4_whole_31 : decode cX4_whole 31 = .ok (.iconst 1, 1) := by decide +kernel
theorem dX4_whole_32 : decode cX4_whole 32 = .ok (.goto 4, 3) := by decide +kernel
theorem dX4_whole_35 : decode cX4_whole 35 = .ok (.iconst 0, 1) := by decide +kernel
theorem dX4_whole_36 : decode cX4_whole 36 = .ok (.ireturn, 1) := by decide +kernel
theorem dX4_loss_0 : decode cX4_loss 0 = .ok (.aload_n 0, 1) := by decide +kernel
theorem dX4_loss_1 : decode cX4_loss 1 = .ok (.getfield 10, 3) := by decide +kernel
theorem dX4_loss_4 : decode cX4_loss 4 = .ok (.iload_n 1, 1) := by decide +kernel
theorem dX4_loss_5 : decode cX4_loss 5 = .ok (.invokevirtual 65, 3) := by decide +kernel
theorem dX4_loss_8 : decode cX4_loss 8 = .ok (.ifCond .eq 15, 3) := by decide +kernel
theorem dX4_loss_11 : decode cX4_loss 11 = .ok (.aload_n 0, 1) := by decide +kernel
theorem dX4_loss_12 : decode cX4_loss 12 = .ok (.getfield 35, 3) := by decide +kernel
theorem dX4_loss_15 : decode cX4_loss 15 = .ok (.getfield 192, 3) := by decide +kernel
theorem dX4_loss_18 : decode cX4_loss 18 = .ok (.iload_n 1, 1) := by decide +kernel
theorem dX4_loss_19 : decode cX4_loss 19 = .ok (.laload, 1) := by decide +kernel
theorem dX4_loss_20 : decode cX4_loss 20 = .ok (.goto 6, 3) := by decide +kernel
theorem dX4_loss_23 : decode cX4_loss 23 = .ok (.ldc2_w 114, 3) := by decide +kernel
theorem dX4_loss_26 : decode cX4_loss 26 = .ok (.lreturn, 1) := by decide +kernel
theorem dX4_isAmount_0 : decode cX4_isAmount 0 = .ok (.lload_n 0, 1) := by decide +kernel
theorem dX4_isAmount_1 : decode cX4_isAmount 1 = .ok (.lconst 1, 1) := by decide +kernel
theorem dX4_isAmount_2 : decode cX4_isAmount 2 = .ok (.lcmp, 1) := by decide +kernel
theorem dX4_isAmount_3 : decode cX4_isAmount 3 = .ok (.ifCond .lt 15, 3) := by decide +kernel
theorem dX4_isAmount_6 : decode cX4_isAmount 6 = .ok (.lload_n 0, 1) := by decide +kernel
theorem dX4_isAmount_7 : decode cX4_isAmount 7 = .ok (.ldc2_w 158, 3) := by decide +kernel
theorem dX4_isAmount_10 : decode cX4_isAmount 10 = .ok (.lcmp, 1) := by decide +kernel
theorem dX4_isAmount_11 : decode cX4_isAmount 11 = .ok (.ifCond .gt 7, 3) := by decide +kernel
theorem dX4_isAmount_14 : decode cX4_isAmount 14 = .ok (.iconst 1, 1) := by decide +kernel
theorem dX4_isAmount_15 : decode cX4_isAmount 15 = .ok (.goto 4, 3) := by decide +kernel
theorem dX4_isAmount_18 : decode cX4_isAmount 18 = .ok (.iconst 0, 1) := by decide +kernel
theorem dX4_isAmount_19 : decode cX4_isAmount 19 = .ok (.ireturn, 1) := by decide +kernel
theorem dX4_isDay_0 : decode cX4_isDay 0 = .ok (.lload_n 0, 1) := by decide +kernel
theorem dX4_isDay_1 : decode cX4_isDay 1 = .ok (.lconst 0, 1) := by decide +kernel
theorem dX4_isDay_2 : decode cX4_isDay 2 = .ok (.lcmp, 1) := by decide +kernel
theorem dX4_isDay_3 : decode cX4_isDay 3 = .ok (.ifCond .lt 15, 3) := by decide +kernel
theorem dX4_isDay_6 : decode cX4_isDay 6 = .ok (.lload_n 0, 1) := by decide +kernel
theorem dX4_isDay_7 : decode cX4_isDay 7 = .ok (.ldc2_w 195, 3) := by decide +kernel
theorem dX4_isDay_10 : decode cX4_isDay 10 = .ok (.lcmp, 1) := by decide +kernel
theorem dX4_isDay_11 : decode cX4_isDay 11 = .ok (.ifCond .gt 7, 3) := by decide +kernel
theorem dX4_isDay_14 : decode cX4_isDay 14 = .ok (.iconst 1, 1) := by decide +kernel
theorem dX4_isDay_15 : decode cX4_isDay 15 = .ok (.goto 4, 3) := by decide +kernel
theorem dX4_isDay_18 : decode cX4_isDay 18 = .ok (.iconst 0, 1) := by decide +kernel
theorem dX4_isDay_19 : decode cX4_isDay 19 = .ok (.ireturn, 1) := by decide +kernel
theorem dX4_greatestDivisor_0 : decode cX4_greatestDivisor 0 = .ok (.lload_n 0, 1) := by decide +kernel
theorem dX4_greatestDivisor_1 : decode cX4_greatestDivisor 1 = .ok (.lstore 4, 2) := by decide +kernel
theorem dX4_greatestDivisor_3 : decode cX4_greatestDivisor 3 = .ok (.lload_n 2, 1) := by decide +kernel
theorem dX4_greatestDivisor_4 : decode cX4_greatestDivisor 4 = .ok (.lstore 6, 2) := by decide +kernel
theorem dX4_greatestDivisor_6 : decode cX4_greatestDivisor 6 = .ok (.iconst 0, 1) := by decide +kernel
theorem dX4_greatestDivisor_7 : decode cX4_greatestDivisor 7 = .ok (.istore 8, 2) := by decide +kernel
theorem dX4_greatestDivisor_9 : decode cX4_greatestDivisor 9 = .ok (.iload 8, 2) := by decide +kernel
theorem dX4_greatestDivisor_11 : decode cX4_greatestDivisor 11 = .ok (.sipush 200, 3) := by decide +kernel
theorem dX4_greatestDivisor_14 : decode cX4_greatestDivisor 14 = .ok (.if_icmp .ge 31, 3) := by decide +kernel
theorem dX4_greatestDivisor_17 : decode cX4_greatestDivisor 17 = .ok (.lload 6, 2) := by decide +kernel
theorem dX4_greatestDivisor_19 : decode cX4_greatestDivisor 19 = .ok (.lconst 0, 1) := by decide +kernel
theorem dX4_greatestDivisor_20 : decode cX4_greatestDivisor 20 = .ok (.lcmp, 1) := by decide +kernel
theorem dX4_greatestDivisor_21 : decode cX4_greatestDivisor 21 = .ok (.ifCond .eq 24, 3) := by decide +kernel
theorem dX4_greatestDivisor_24 : decode cX4_greatestDivisor 24 = .ok (.lload 4, 2) := by decide +kernel
theorem dX4_greatestDivisor_26 : decode cX4_greatestDivisor 26 = .ok (.lload 6, 2) := by decide +kernel
theorem dX4_greatestDivisor_28 : decode cX4_greatestDivisor 28 = .ok (.lrem, 1) := by decide +kernel
theorem dX4_greatestDivisor_29 : decode cX4_greatestDivisor 29 = .ok (.lstore 9, 2) := by decide +kernel
theorem dX4_greatestDivisor_31 : decode cX4_greatestDivisor 31 = .ok (.lload 6, 2) := by decide +kernel
theorem dX4_greatestDivisor_33 : decode cX4_greatestDivisor 33 = .ok (.lstore 4, 2) := by decide +kernel
theorem dX4_greatestDivisor_35 : decode cX4_greatestDivisor 35 = .ok (.lload 9, 2) := by decide +kernel
theorem dX4_greatestDivisor_37 : decode cX4_greatestDivisor 37 = .ok (.lstore 6, 2) := by decide +kernel
theorem dX4_greatestDivisor_39 : decode cX4_greatestDivisor 39 = .ok (.iinc 8 1, 3) := by decide +kernel
theorem dX4_greatestDivisor_42 : decode cX4_greatestDivisor 42 = .ok (.goto (-33), 3) := by decide +kernel
theorem dX4_greatestDivisor_45 : decode cX4_greatestDivisor 45 = .ok (.lload 4, 2) := by decide +kernel
theorem dX4_greatestDivisor_47 : decode cX4_greatestDivisor 47 = .ok (.lreturn, 1) := by decide +kernel
theorem dX4_tell_0 : decode cX4_tell 0 = .ok (.aload_n 0, 1) := by decide +kernel
theorem dX4_tell_1 : decode cX4_tell 1 = .ok (.getfield 10, 3) := by decide +kernel
theorem dX4_tell_4 : decode cX4_tell 4 = .ok (.iload_n 1, 1) := by decide +kernel
theorem dX4_tell_5 : decode cX4_tell 5 = .ok (.invokevirtual 82, 3) := by decide +kernel
theorem dX4_tell_8 : decode cX4_tell 8 = .ok (.ifCond .eq 20, 3) := by decide +kernel
theorem dX4_tell_11 : decode cX4_tell 11 = .ok (.lload 5, 2) := by decide +kernel
theorem dX4_tell_13 : decode cX4_tell 13 = .ok (.aload_n 0, 1) := by decide +kernel
theorem dX4_tell_14 : decode cX4_tell 14 = .ok (.getfield 10, 3) := by decide +kernel
theorem dX4_tell_17 : decode cX4_tell 17 = .ok (.getfield 197, 3) := by decide +kernel
theorem dX4_tell_20 : decode cX4_tell 20 = .ok (.iload_n 1, 1) := by decide +kernel
theorem dX4_tell_21 : decode cX4_tell 21 = .ok (.laload, 1) := by decide +kernel
theorem dX4_tell_22 : decode cX4_tell 22 = .ok (.lcmp, 1) := by decide +kernel
theorem dX4_tell_23 : decode cX4_tell 23 = .ok (.ifCond .ge 5, 3) := by decide +kernel
theorem dX4_tell_26 : decode cX4_tell 26 = .ok (.iconst 0, 1) := by decide +kernel
theorem dX4_tell_27 : decode cX4_tell 27 = .ok (.ireturn, 1) := by decide +kernel
theorem dX4_tell_28 : decode cX4_tell 28 = .ok (.aload_n 0, 1) := by decide +kernel
theorem dX4_tell_29 : decode cX4_tell 29 = .ok (.getfield 19, 3) := by decide +kernel
theorem dX4_tell_32 : decode cX4_tell 32 = .ok (.lload 5, 2) := by decide +kernel
theorem dX4_tell_34 : decode cX4_tell 34 = .ok (.invokevirtual 200, 3) := by decide +kernel
theorem dX4_tell_37 : decode cX4_tell 37 = .ok (.istore 7, 2) := by decide +kernel
theorem dX4_tell_39 : decode cX4_tell 39 = .ok (.iload 7, 2) := by decide +kernel
theorem dX4_tell_41 : decode cX4_tell 41 = .ok (.aload_n 0, 1) := by decide +kernel
theorem dX4_tell_42 : decode cX4_tell 42 = .ok (.getfield 19, 3) := by decide +kernel
theorem dX4_tell_45 : decode cX4_tell 45 = .ok (.getfield 76, 3) := by decide +kernel
theorem dX4_tell_48 : decode cX4_tell 48 = .ok (.if_icmp .ne 34, 3) := by decide +kernel
theorem dX4_tell_51 : decode cX4_tell 51 = .ok (.aload_n 0, 1) := by decide +kernel
theorem dX4_tell_52 : decode cX4_tell 52 = .ok (.getfield 35, 3) := by decide +kernel
theorem dX4_tell_55 : decode cX4_tell 55 = .ok (.iload_n 1, 1) := by decide +kernel
theorem dX4_tell_56 : decode cX4_tell 56 = .ok (.iload_n 2, 1) := by decide +kernel
theorem dX4_tell_57 : decode cX4_tell 57 = .ok (.lload_n 3, 1) := by decide +kernel
theorem dX4_tell_58 : decode cX4_tell 58 = .ok (.invokevirtual 204, 3) := by decide +kernel
theorem dX4_tell_61 : decode cX4_tell 61 = .ok (.ifCond .ne 5, 3) := by decide +kernel
theorem dX4_tell_64 : decode cX4_tell 64 = .ok (.iconst 0, 1) := by decide +kernel
theorem dX4_tell_65 : decode cX4_tell 65 = .ok (.ireturn, 1) := by decide +kernel
theorem dX4_tell_66 : decode cX4_tell 66 = .ok (.aload_n 0, 1) := by decide +kernel
theorem dX4_tell_67 : decode cX4_tell 67 = .ok (.getfield 19, 3) := by decide +kernel
theorem dX4_tell_70 : decode cX4_tell 70 = .ok (.iload 7, 2) := by decide +kernel
theorem dX4_tell_72 : decode cX4_tell 72 = .ok (.iload_n 1, 1) := by decide +kernel
theorem dX4_tell_73 : decode cX4_tell 73 = .ok (.iload_n 2, 1) := by decide +kernel
theorem dX4_tell_74 : decode cX4_tell 74 = .ok (.lload_n 3, 1) := by decide +kernel
theorem dX4_tell_75 : decode cX4_tell 75 = .ok (.lload 5, 2) := by decide +kernel
theorem dX4_tell_77 : decode cX4_tell 77 = .ok (.invokevirtual 208, 3) := by decide +kernel
theorem dX4_tell_80 : decode cX4_tell 80 = .ok (.iconst 1, 1) := by decide +kernel
theorem dX4_tell_81 : decode cX4_tell 81 = .ok (.ireturn, 1) := by decide +kernel
theorem dX4_tell_82 : decode cX4_tell 82 = .ok (.aload_n 0, 1) := by decide +kernel
theorem dX4_tell_83 : decode cX4_tell 83 = .ok (.getfield 19, 3) := by decide +kernel
theorem dX4_tell_86 : decode cX4_tell 86 = .ok (.iload 7, 2) := by decide +kernel
theorem dX4_tell_88 : decode cX4_tell 88 = .ok (.iload_n 1, 1) := by decide +kernel
theorem dX4_tell_89 : decode cX4_tell 89 = .ok (.iload_n 2, 1) := by decide +kernel
theorem dX4_tell_90 : decode cX4_tell 90 = .ok (.lload_n 3, 1) := by decide +kernel
theorem dX4_tell_91 : decode cX4_tell 91 = .ok (.lload 5, 2) := by decide +kernel
theorem dX4_tell_93 : decode cX4_tell 93 = .ok (.invokevirtual 208, 3) := by decide +kernel
theorem dX4_tell_96 : decode cX4_tell 96 = .ok (.aload_n 0, 1) := by decide +kernel
theorem dX4_tell_97 : decode cX4_tell 97 = .ok (.getfield 39, 3) := by decide +kernel
theorem dX4_tell_100 : decode cX4_tell 100 = .ok (.aload_n 0, 1) := by decide +kernel
theorem dX4_tell_101 : decode cX4_tell 101 = .ok (.getfield 19, 3) := by decide +kernel
theorem dX4_tell_104 : decode cX4_tell 104 = .ok (.invokevirtual 166, 3) := by decide +kernel
theorem dX4_tell_107 : decode cX4_tell 107 = .ok (.ifCond .ne 14, 3) := by decide +kernel
theorem dX4_tell_110 : decode cX4_tell 110 = .ok (.aload_n 0, 1) := by decide +kernel
theorem dX4_tell_111 : decode cX4_tell 111 = .ok (.getfield 19, 3) := by decide +kernel
theorem dX4_tell_114 : decode cX4_tell 114 = .ok (.iload 7, 2) := by decide +kernel
theorem dX4_tell_116 : decode cX4_tell 116 = .ok (.invokevirtual 212, 3) := by decide +kernel
theorem dX4_tell_119 : decode cX4_tell 119 = .ok (.iconst 0, 1) := by decide +kernel
theorem dX4_tell_120 : decode cX4_tell 120 = .ok (.ireturn, 1) := by decide +kernel
theorem dX4_tell_121 : decode cX4_tell 121 = .ok (.aload_n 0, 1) := by decide +kernel
theorem dX4_tell_122 : decode cX4_tell 122 = .ok (.invokevirtual 170, 3) := by decide +kernel
theorem dX4_tell_125 : decode cX4_tell 125 = .ok (.iconst 1, 1) := by decide +kernel
theorem dX4_tell_126 : decode cX4_tell 126 = .ok (.ireturn, 1) := by decide +kernel
theorem dX4_takeTrial_0 : decode cX4_takeTrial 0 = .ok (.aload_n 0, 1) := by decide +kernel
theorem dX4_takeTrial_1 : decode cX4_takeTrial 1 = .ok (.getfield 35, 3) := by decide +kernel
theorem dX4_takeTrial_4 : decode cX4_takeTrial 4 = .ok (.astore_n 1, 1) := by decide +kernel
theorem dX4_takeTrial_5 : decode cX4_takeTrial 5 = .ok (.aload_n 0, 1) := by decide +kernel
theorem dX4_takeTrial_6 : decode cX4_takeTrial 6 = .ok (.aload_n 0, 1) := by decide +kernel
theorem dX4_takeTrial_7 : decode cX4_takeTrial 7 = .ok (.getfield 39, 3) := by decide +kernel
theorem dX4_takeTrial_10 : decode cX4_takeTrial 10 = .ok (.putfield 35, 3) := by decide +kernel
theorem dX4_takeTrial_13 : decode cX4_takeTrial 13 = .ok (.aload_n 0, 1) := by decide +kernel
theorem dX4_takeTrial_14 : decode cX4_takeTrial 14 = .ok (.aload_n 1, 1) := by decide +kernel
theorem dX4_takeTrial_15 : decode cX4_takeTrial 15 = .ok (.putfield 39, 3) := by decide +kernel
theorem dX4_takeTrial_18 : decode cX4_takeTrial 18 = .ok (.return_, 1) := by decide +kernel
theorem dX4_canGive_0 : decode cX4_canGive 0 = .ok (.iload_n 2, 1) := by decide +kernel
theorem dX4_canGive_1 : decode cX4_canGive 1 = .ok (.iconst (-1), 1) := by decide +kernel
theorem dX4_canGive_2 : decode cX4_canGive 2 = .ok (.if_icmp .eq 10, 3) := by decide +kernel
theorem dX4_canGive_5 : decode cX4_canGive 5 = .ok (.iload_n 2, 1) := by decide +kernel
theorem dX4_canGive_6 : decode cX4_canGive 6 = .ok (.iload_n 1, 1) := by decide +kernel
theorem dX4_canGive_7 : decode cX4_canGive 7 = .ok (.if_icmp .eq 5, 3) := by decide +kernel
theorem dX4_canGive_10 : decode cX4_canGive 10 = .ok (.lconst 0, 1) := by decide +kernel
theorem dX4_canGive_11 : decode cX4_canGive 11 = .ok (.lreturn, 1) := by decide +kernel
theorem dX4_canGive_12 : decode cX4_canGive 12 = .ok (.aload_n 0, 1) := by decide +kernel
theorem dX4_canGive_13 : decode cX4_canGive 13 = .ok (.getfield 10, 3) := by decide +kernel
theorem dX4_canGive_16 : decode cX4_canGive 16 = .ok (.getfield 95, 3) := by decide +kernel
theorem dX4_canGive_19 : decode cX4_canGive 19 = .ok (.iload_n 1, 1) := by decide +kernel
theorem dX4_canGive_20 : decode cX4_canGive 20 = .ok (.baload, 1) := by decide +kernel
theorem dX4_canGive_21 : decode cX4_canGive 21 = .ok (.ifCond .ne 17, 3) := by decide +kernel
theorem dX4_canGive_24 : decode cX4_canGive 24 = .ok (.aload_n 0, 1) := by decide +kernel
theorem dX4_canGive_25 : decode cX4_canGive 25 = .ok (.getfield 10, 3) := by decide +kernel
theorem dX4_canGive_28 : decode cX4_canGive 28 = .ok (.getfield 197, 3) := by decide +kernel
theorem dX4_canGive_31 : decode cX4_canGive 31 = .ok (.iload_n 1, 1) := by decide +kernel
theorem dX4_canGive_32 : decode cX4_canGive 32 = .ok (.laload, 1) := by decide +kernel
theorem dX4_canGive_33 : decode cX4_canGive 33 = .ok (.lload_n 3, 1) := by decide +kernel
theorem dX4_canGive_34 : decode cX4_canGive 34 = .ok (.lcmp, 1) := by decide +kernel
theorem dX4_canGive_35 : decode cX4_canGive 35 = .ok (.ifCond .le 7, 3) := by decide +kernel
theorem dX4_canGive_38 : decode cX4_canGive 38 = .ok (.lconst 0, 1) := by decide +kernel
theorem dX4_canGive_39 : decode cX4_canGive 39 = .ok (.goto 11, 3) := by decide +kernel
theorem dX4_canGive_42 : decode cX4_canGive 42 = .ok (.aload_n 0, 1) := by decide +kernel
theorem dX4_canGive_43 : decode cX4_canGive 43 = .ok (.getfield 35, 3) := by decide +kernel
theorem dX4_canGive_46 : decode cX4_canGive 46 = .ok (.iload_n 1, 1) := by decide +kernel
theorem dX4_canGive_47 : decode cX4_canGive 47 = .ok (.invokevirtual 110, 3) := by decide +kernel
theorem dX4_canGive_50 : decode cX4_canGive 50 = .ok (.lreturn, 1) := by decide +kernel
theorem dX4_countTopFlows_0 : decode cX4_countTopFlows 0 = .ok (.lload_n 2, 1) := by decide +kernel
theorem dX4_countTopFlows_1 : decode cX4_countTopFlows 1 = .ok (.lstore 6, 2) := by decide +kernel
theorem dX4_countTopFlows_3 : decode cX4_countTopFlows 3 = .ok (.iconst 0, 1) := by decide +kernel
theorem dX4_countTopFlows_4 : decode cX4_countTopFlows 4 = .ok (.istore 8, 2) := by decide +kernel
theorem dX4_countTopFlows_6 : decode cX4_countTopFlows 6 = .ok (.iconst 0, 1) := by decide +kernel
theorem dX4_countTopFlows_7 : decode cX4_countTopFlows 7 = .ok (.istore 9, 2) := by decide +kernel
theorem dX4_countTopFlows_9 : decode cX4_countTopFlows 9 = .ok (.iload 9, 2) := by decide +kernel
theorem dX4_countTopFlows_11 : decode cX4_countTopFlows 11 = .ok (.aload_n 0, 1) := by decide +kernel
theorem dX4_countTopFlows_12 : decode cX4_countTopFlows 12 = .ok (.getfield 10, 3) := by decide +kernel
theorem dX4_countTopFlows_15 : decode cX4_countTopFlows 15 = .ok (.getfield 215, 3) := by decide +kernel
theorem dX4_countTopFlows_18 : decode cX4_countTopFlows 18 = .ok (.if_icmp .ge 57, 3) := by decide +kernel
theorem dX4_countTopFlows_21 : decode cX4_countTopFlows 21 = .ok (.lload 6, 2) := by decide +kernel
theorem dX4_countTopFlows_23 : decode cX4_countTopFlows 23 = .ok (.lconst 0, 1) := by decide +kernel
theorem dX4_countTopFlows_24 : decode cX4_countTopFlows 24 = .ok (.lcmp, 1) := by decide +kernel
theorem dX4_countTopFlows_25 : decode cX4_countTopFlows 25 = .ok (.ifCond .le 50, 3) := by decide +kernel
theorem dX4_countTopFlows_28 : decode cX4_countTopFlows 28 = .ok (.lload 6, 2) := by decide +kernel
theorem dX4_countTopFlows_30 : decode cX4_countTopFlows 30 = .ok (.aload_n 0, 1) := by decide +kernel
theorem dX4_countTopFlows_31 : decode cX4_countTopFlows 31 = .ok (.aload_n 0, 1) := by decide +kernel
theorem dX4_countTopFlows_32 : decode cX4_countTopFlows 32 = .ok (.getfield 10, 3) := by decide +kernel
theorem dX4_countTopFlows_35 : decode cX4_countTopFlows 35 = .ok (.getfield 218, 3) := by decide +kernel
theorem dX4_countTopFlows_38 : decode cX4_countTopFlows 38 = .ok (.iload 9, 2) := by decide +kernel
theorem dX4_countTopFlows_40 : decode cX4_countTopFlows 40 = .ok (.iaload, 1) := by decide +kernel
theorem dX4_countTopFlows_41 : decode cX4_countTopFlows 41 = .ok (.iload_n 1, 1) := by decide +kernel
theorem dX4_countTopFlows_42 : decode cX4_countTopFlows 42 = .ok (.lload 4, 2) := by decide +kernel
theorem dX4_countTopFlows_44 : decode cX4_countTopFlows 44 = .ok (.invokevirtual 221, 3) := by decide +kernel
theorem dX4_countTopFlows_47 : decode cX4_countTopFlows 47 = .ok (.invokestatic 150, 3) := by decide +kernel
theorem dX4_countTopFlows_50 : decode cX4_countTopFlows 50 = .ok (.lstore 10, 2) := by decide +kernel
theorem dX4_countTopFlows_52 : decode cX4_countTopFlows 52 = .ok (.lload 10, 2) := by decide +kernel
theorem dX4_countTopFlows_54 : decode cX4_countTopFlows 54 = .ok (.lconst 0, 1) := by decide +kernel
theorem dX4_countTopFlows_55 : decode cX4_countTopFlows 55 = .ok (.lcmp, 1) := by decide +kernel
theorem dX4_countTopFlows_56 : decode cX4_countTopFlows 56 = .ok (.ifCond .le 13, 3) := by decide +kernel
theorem dX4_countTopFlows_59 : decode cX4_countTopFlows 59 = .ok (.lload 6, 2) := by decide +kernel
theorem dX4_countTopFlows_61 : decode cX4_countTopFlows 61 = .ok (.lload 10, 2) := by decide +kernel
theorem dX4_countTopFlows_63 : decode cX4_countTopFlows 63 = .ok (.lsub, 1) := by decide +kernel
theorem dX4_countTopFlows_64 : decode cX4_countTopFlows 64 = .ok (.lstore 6, 2) := by decide +kernel
theorem dX4_countTopFlows_66 : decode cX4_countTopFlows 66 = .ok (.iinc 8 1, 3) := by decide +kernel
theorem dX4_countTopFlows_69 : decode cX4_countTopFlows 69 = .ok (.iinc 9 1, 3) := by decide +kernel
theorem dX4_countTopFlows_72 : decode cX4_countTopFlows 72 = .ok (.goto (-63), 3) := by decide +kernel
theorem dX4_countTopFlows_75 : decode cX4_countTopFlows 75 = .ok (.lload 6, 2) := by decide +kernel
theorem dX4_countTopFlows_77 : decode cX4_countTopFlows 77 = .ok (.lconst 0, 1) := by decide +kernel
theorem dX4_countTopFlows_78 : decode cX4_countTopFlows 78 = .ok (.lcmp, 1) := by decide +kernel
theorem dX4_countTopFlows_79 : decode cX4_countTopFlows 79 = .ok (.ifCond .le 7, 3) := by decide +kernel
theorem dX4_countTopFlows_82 : decode cX4_countTopFlows 82 = .ok (.iconst (-1), 1) := by decide +kernel
theorem dX4_countTopFlows_83 : decode cX4_countTopFlows 83 = .ok (.goto 5, 3) := by decide +kernel
theorem dX4_countTopFlows_86 : decode cX4_countTopFlows 86 = .ok (.iload 8, 2) := by decide +kernel
theorem dX4_countTopFlows_88 : decode cX4_countTopFlows 88 = .ok (.ireturn, 1) := by decide +kernel
theorem dX4_tellTopFlows_0 : decode cX4_tellTopFlows 0 = .ok (.lload_n 3, 1) := by decide +kernel
theorem dX4_tellTopFlows_1 : decode cX4_tellTopFlows 1 = .ok (.lstore 7, 2) := by decide +kernel
theorem dX4_tellTopFlows_3 : decode cX4_tellTopFlows 3 = .ok (.iconst 0, 1) := by decide +kernel
theorem dX4_tellTopFlows_4 : decode cX4_tellTopFlows 4 = .ok (.istore 9, 2) := by decide +kernel
theorem dX4_tellTopFlows_6 : decode cX4_tellTopFlows 6 = .ok (.iload 9, 2) := by decide +kernel
theorem dX4_tellTopFlows_8 : decode cX4_tellTopFlows 8 = .ok (.aload_n 0, 1) := by decide +kernel
theorem dX4_tellTopFlows_9 : decode cX4_tellTopFlows 9 = .ok (.getfield 10, 3) := by decide +kernel
theorem dX4_tellTopFlows_12 : decode cX4_tellTopFlows 12 = .ok (.getfield 215, 3) := by decide +kernel
theorem dX4_tellTopFlows_15 : decode cX4_tellTopFlows 15 = .ok (.if_icmp .ge 72, 3) := by decide +kernel
theorem dX4_tellTopFlows_18 : decode cX4_tellTopFlows 18 = .ok (.lload 7, 2) := by decide +kernel
theorem dX4_tellTopFlows_20 : decode cX4_tellTopFlows 20 = .ok (.lconst 0, 1) := by decide +kernel
theorem dX4_tellTopFlows_21 : decode cX4_tellTopFlows 21 = .ok (.lcmp, 1) := by decide +kernel
theorem dX4_tellTopFlows_22 : decode cX4_tellTopFlows 22 = .ok (.ifCond .le 65, 3) := by decide +kernel
theorem dX4_tellTopFlows_25 : decode cX4_tellTopFlows 25 = .ok (.aload_n 0, 1) := by decide +kernel
theorem dX4_tellTopFlows_26 : decode cX4_tellTopFlows 26 = .ok (.getfield 10, 3) := by decide +kernel
theorem dX4_tellTopFlows_29 : decode cX4_tellTopFlows 29 = .ok (.getfield 218, 3) := by decide +kernel
theorem dX4_tellTopFlows_32 : decode cX4_tellTopFlows 32 = .ok (.iload 9, 2) := by decide +kernel
theorem dX4_tellTopFlows_34 : decode cX4_tellTopFlows 34 = .ok (.iaload, 1) := by decide +kernel
theorem dX4_tellTopFlows_35 : decode cX4_tellTopFlows 35 = .ok (.istore 10, 2) := by decide +kernel
theorem dX4_tellTopFlows_37 : decode cX4_tellTopFlows 37 = .ok (.lload 7, 2) := by decide +kernel
theorem dX4_tellTopFlows_39 : decode cX4_tellTopFlows 39 = .ok (.aload_n 0, 1) := by decide +kernel
theorem dX4_tellTopFlows_40 : decode cX4_tellTopFlows 40 = .ok (.iload 10, 2) := by decide +kernel
theorem dX4_tellTopFlows_42 : decode cX4_tellTopFlows 42 = .ok (.iload_n 2, 1) := by decide +kernel
theorem dX4_tellTopFlows_43 : decode cX4_tellTopFlows 43 = .ok (.lload 5, 2) := by decide +kernel
theorem dX4_tellTopFlows_45 : decode cX4_tellTopFlows 45 = .ok (.invokevirtual 221, 3) := by decide +kernel
theorem dX4_tellTopFlows_48 : decode cX4_tellTopFlows 48 = .ok (.invokestatic 150, 3) := by decide +kernel
theorem dX4_tellTopFlows_51 : decode cX4_tellTopFlows 51 = .ok (.lstore 11, 2) := by decide +kernel
theorem dX4_tellTopFlows_53 : decode cX4_tellTopFlows 53 = .ok (.lload 11, 2) := by decide +kernel
theorem dX4_tellTopFlows_55 : decode cX4_tellTopFlows 55 = .ok (.lconst 0, 1) := by decide +kernel
theorem dX4_tellTopFlows_56 : decode cX4_tellTopFlows 56 = .ok (.lcmp, 1) := by decide +kernel
theorem dX4_tellTopFlows_57 : decode cX4_tellTopFlows 57 = .ok (.ifCond .le 24, 3) := by decide +kernel
theorem dX4_tellTopFlows_60 : decode cX4_tellTopFlows 60 = .ok (.aload_n 0, 1) := by decide +kernel
theorem dX4_tellTopFlows_61 : decode cX4_tellTopFlows 61 = .ok (.iload 10, 2) := by decide +kernel
theorem dX4_tellTopFlows_63 : decode cX4_tellTopFlows 63 = .ok (.iload_n 1, 1) := by decide +kernel
theorem dX4_tellTopFlows_64 : decode cX4_tellTopFlows 64 = .ok (.lload 11, 2) := by decide +kernel
theorem dX4_tellTopFlows_66 : decode cX4_tellTopFlows 66 = .ok (.lload 5, 2) := by decide +kernel
theorem dX4_tellTopFlows_68 : decode cX4_tellTopFlows 68 = .ok (.invokevirtual 104, 3) := by decide +kernel
theorem dX4_tellTopFlows_71 : decode cX4_tellTopFlows 71 = .ok (.ifCond .eq 10, 3) := by decide +kernel
theorem dX4_tellTopFlows_74 : decode cX4_tellTopFlows 74 = .ok (.lload 7, 2) := by decide +kernel
theorem dX4_tellTopFlows_76 : decode cX4_tellTopFlows 76 = .ok (.lload 11, 2) := by decide +kernel
theorem dX4_tellTopFlows_78 : decode cX4_tellTopFlows 78 = .ok (.lsub, 1) := by decide +kernel
theorem dX4_tellTopFlows_79 : decode cX4_tellTopFlows 79 = .ok (.lstore 7, 2) := by decide +kernel
theorem dX4_tellTopFlows_81 : decode cX4_tellTopFlows 81 = .ok (.iinc 9 1, 3) := by decide +kernel
theorem dX4_tellTopFlows_84 : decode cX4_tellTopFlows 84 = .ok (.goto (-78), 3) := by decide +kernel
theorem dX4_tellTopFlows_87 : decode cX4_tellTopFlows 87 = .ok (.return_, 1) := by decide +kernel
end
section
theorem dX5_init_0 : decode cX5_init 0 = .ok (.aload_n 0, 1) := by decide +kernel
theorem dX5_init_1 : decode cX5_init 1 = .ok (.invokespecial 1, 3) := by decide +kernel
theorem dX5_init_4 : decode cX5_init 4 = .ok (.aload_n 0, 1) := by decide +kernel
theorem dX5_init_5 : decode cX5_init 5 = .ok (.bipush 48, 2) := by decide +kernel
theorem dX5_init_7 : decode cX5_init 7 = .ok (.newarray .int, 2) := by decide +kernel
theorem dX5_init_9 : decode cX5_init 9 = .ok (.putfield 9, 3) := by decide +kernel
theorem dX5_init_12 : decode cX5_init 12 = .ok (.aload_n 0, 1) := by decide +kernel
theorem dX5_init_13 : decode cX5_init 13 = .ok (.bipush 48, 2) := by decide +kernel
theorem dX5_init_15 : decode cX5_init 15 = .ok (.newarray .long, 2) := by decide +kernel
theorem dX5_init_17 : decode cX5_init 17 = .ok (.putfield 13, 3) := by decide +kernel
theorem dX5_init_20 : decode cX5_init 20 = .ok (.aload_n 0, 1) := by decide +kernel
theorem dX5_init_21 : decode cX5_init 21 = .ok (.bipush 48, 2) := by decide +kernel
theorem dX5_init_23 : decode cX5_init 23 = .ok (.newarray .long, 2) := by decide +kernel
theorem dX5_init_25 : decode cX5_init 25 = .ok (.putfield 17, 3) := by decide +kernel
theorem dX5_init_28 : decode cX5_init 28 = .ok (.aload_n 0, 1) := by decide +kernel
theorem dX5_init_29 : decode cX5_init 29 = .ok (.bipush 48, 2) := by decide +kernel
theorem dX5_init_31 : decode cX5_init 31 = .ok (.newarray .int, 2) := by decide +kernel
theorem dX5_init_33 : decode cX5_init 33 = .ok (.putfield 20, 3) := by decide +kernel
theorem dX5_init_36 : decode cX5_init 36 = .ok (.aload_n 0, 1) := by decide +kernel
theorem dX5_init_37 : decode cX5_init 37 = .ok (.bipush 48, 2) := by decide +kernel
theorem dX5_init_39 : decode cX5_init 39 = .ok (.newarray .int, 2) := by decide +kernel
theorem dX5_init_41 : decode cX5_init 41 = .ok (.putfield 23, 3) := by decide +kernel
theorem dX5_init_44 : decode cX5_init 44 = .ok (.aload_n 0, 1) := by decide +kernel
theorem dX5_init_45 : decode cX5_init 45 = .ok (.bipush 48, 2) := by decide +kernel
theorem dX5_init_47 : decode cX5_init 47 = .ok (.newarray .boolean, 2) := by decide +kernel
theorem dX5_init_49 : decode cX5_init 49 = .ok (.putfield 26, 3) := by decide +kernel
theorem dX5_init_52 : decode cX5_init 52 = .ok (.aload_n 0, 1) := by decide +kernel
theorem dX5_init_53 : decode cX5_init 53 = .ok (.sipush 401, 3) := by decide +kernel
theorem dX5_init_56 : decode cX5_init 56 = .ok (.newarray .int, 2) := by decide +kernel
theorem dX5_init_58 : decode cX5_init 58 = .ok (.putfield 30, 3) := by decide +kernel
theorem dX5_init_61 : decode cX5_init 61 = .ok (.aload_n 0, 1) := by decide +kernel
theorem dX5_init_62 : decode cX5_init 62 = .ok (.sipush 401, 3) := by decide +kernel
theorem dX5_init_65 : decode cX5_init 65 = .ok (.newarray .int, 2) := by decide +kernel
theorem dX5_init_67 : decode cX5_init 67 = .ok (.putfield 33, 3) := by decide +kernel
theorem dX5_init_70 : decode cX5_init 70 = .ok (.aload_n 0, 1) := by decide +kernel
theorem dX5_init_71 : decode cX5_init 71 = .ok (.sipush 401, 3) := by decide +kernel
theorem dX5_init_74 : decode cX5_init 74 = .ok (.newarray .long, 2) := by decide +kernel
theorem dX5_init_76 : decode cX5_init 76 = .ok (.putfield 36, 3) := by decide +kernel
theorem dX5_init_79 : decode cX5_init 79 = .ok (.aload_n 0, 1) := by decide +kernel
theorem dX5_init_80 : decode cX5_init 80 = .ok (.sipush 401, 3) := by decide +kernel
theorem dX5_init_83 : decode cX5_init 83 = .ok (.newarray .long, 2) := by decide +kernel
theorem dX5_init_85 : decode cX5_init 85 = .ok (.putfield 39, 3) := by decide +kernel
theorem dX5_init_88 : decode cX5_init 88 = .ok (.aload_n 0, 1) := by decide +kernel
theorem dX5_init_89 : decode cX5_init 89 = .ok (.sipush 2304, 3) := by decide +kernel
theorem dX5_init_92 : decode cX5_init 92 = .ok (.newarray .long, 2) := by decide +kernel
theorem dX5_init_94 : decode cX5_init 94 = .ok (.putfield 42, 3) := by decide +kernel
theorem dX5_init_97 : decode cX5_init 97 = .ok (.aload_n 0, 1) := by decide +kernel
theorem dX5_init_98 : decode cX5_init 98 = .ok (.sipush 2304, 3) := by decide +kernel
theorem dX5_init_101 : decode cX5_init 101 = .ok (.newarray .boolean, 2) := by decide +kernel
theorem dX5_init_103 : decode cX5_init 103 = .ok (.putfield 45, 3) := by decide +kernel
theorem dX5_init_106 : decode cX5_init 106 = .ok (.aload_n 0, 1) := by decide +kernel
theorem dX5_init_107 : decode cX5_init 107 = .ok (.sipush 2304, 3) := by decide +kernel
theorem dX5_init_110 : decode cX5_init 110 = .ok (.newarray .long, 2) := by decide +kernel
theorem dX5_init_112 : decode cX5_init 112 = .ok (.putfield 48, 3) := by decide +kernel
theorem dX5_init_115 : decode cX5_init 115 = .ok (.aload_n 0, 1) := by decide +kernel
theorem dX5_init_116 : decode cX5_init 116 = .ok (.bipush 48, 2) := by decide +kernel
theorem dX5_init_118 : decode cX5_init 118 = .ok (.newarray .long, 2) := by decide +kernel
theorem dX5_init_120 : decode cX5_init 120 = .ok (.putfield 51, 3) := by decide +kernel
theorem dX5_init_123 : decode cX5_init 123 = .ok (.aload_n 0, 1) := by decide +kernel
theorem dX5_init_124 : decode cX5_init 124 = .ok (.bipush 48, 2) := by decide +kernel
theorem dX5_init_126 : decode cX5_init 126 = .ok (.newarray .long, 2) := by decide +kernel
theorem dX5_init_128 : decode cX5_init 128 = .ok (.putfield 54, 3) := by decide +kernel
theorem dX5_init_131 : decode cX5_init 131 = .ok (.aload_n 0, 1) := by decide +kernel
theorem dX5_init_132 : decode cX5_init 132 = .ok (.sipush 401, 3) := by decide +kernel
theorem dX5_init_135 : decode cX5_init 135 = .ok (.newarray .int, 2) := by decide +kernel
theorem dX5_init_137 : decode cX5_init 137 = .ok (.putfield 57, 3) := by decide +kernel
theorem dX5_init_140 : decode cX5_init 140 = .ok (.aload_n 0, 1) := by decide +kernel
theorem dX5_init_141 : decode cX5_init 141 = .ok (.bipush 48, 2) := by decide +kernel
theorem dX5_init_143 : decode cX5_init 143 = .ok (.newarray .int, 2) := by decide +kernel
theorem dX5_init_145 : decode cX5_init 145 = .ok (.putfield 60, 3) := by decide +kernel
theorem dX5_init_148 : decode cX5_init 148 = .ok (.aload_n 0, 1) := by decide +kernel
theorem dX5_init_149 : decode cX5_init 149 = .ok (.bipush 48, 2) := by decide +kernel
theorem dX5_init_151 : decode cX5_init 151 = .ok (.newarray .int, 2) := by decide +kernel
theorem dX5_init_153 : decode cX5_init 153 = .ok (.putfield 63, 3) := by decide +kernel
theorem dX5_init_156 : decode cX5_init 156 = .ok (.aload_n 0, 1) := by decide +kernel
theorem dX5_init_157 : decode cX5_init 157 = .ok (.bipush 48, 2) := by decide +kernel
theorem dX5_init_159 : decode cX5_init 159 = .ok (.newarray .long, 2) := by decide +kernel
theorem dX5_init_161 : decode cX5_init 161 = .ok (.putfield 66, 3) := by decide +kernel
theorem dX5_init_164 : decode cX5_init 164 = .ok (.aload_n 0, 1) := by decide +kernel
theorem dX5_init_165 : decode cX5_init 165 = .ok (.bipush 48, 2) := by decide +kernel
theorem dX5_init_167 : decode cX5_init 167 = .ok (.newarray .int, 2) := by decide +kernel
theorem dX5_init_169 : decode cX5_init 169 = .ok (.putfield 69, 3) := by decide +kernel
theorem dX5_init_172 : decode cX5_init 172 = .ok (.return_, 1) := by decide +kernel
theorem dX5_thrown_0 : decode cX5_thrown 0 = .ok (.aload_n 0, 1) := by decide +kernel
theorem dX5_thrown_1 : decode cX5_thrown 1 = .ok (.getfield 72, 3) := by decide +kernel
theorem dX5_thrown_4 : decode cX5_thrown 4 = .ok (.ireturn, 1) := by decide +kernel
theorem dX5_isNode_0 : decode cX5_isNode 0 = .ok (.iload_n 1, 1) := by decide +kernel
theorem dX5_isNode_1 : decode cX5_isNode 1 = .ok (.ifCond .lt 15, 3) := by decide +kernel
theorem dX5_isNode_4 : decode cX5_isNode 4 = .ok (.iload_n 1, 1) := by decide +kernel
theorem dX5_isNode_5 : decode cX5_isNode 5 = .ok (.aload_n 0, 1) := by decide +kernel
theorem dX5_isNode_6 : decode cX5_isNode 6 = .ok (.getfield 76, 3) := by decide +kernel
theorem dX5_isNode_9 : decode cX5_isNode 9 = .ok (.if_icmp .ge 7, 3) := by decide +kernel
theorem dX5_isNode_12 : decode cX5_isNode 12 = .ok (.iconst 1, 1) := by decide +kernel
theorem dX5_isNode_13 : decode cX5_isNode 13 = .ok (.goto 4, 3) := by decide +kernel
theorem dX5_isNode_16 : decode cX5_isNode 16 = .ok (.iconst 0, 1) := by decide +kernel
theorem dX5_isNode_17 : decode cX5_isNode 17 = .ok (.ireturn, 1) := by decide +kernel
theorem dX5_isLot_0 : decode cX5_isLot 0 = .ok (.aload_n 0, 1) := by decide +kernel
theorem dX5_isLot_1 : decode cX5_isLot 1 = .ok (.iload_n 1, 1) := by decide +kernel
theorem dX5_isLot_2 : decode cX5_isLot 2 = .ok (.invokevirtual 79, 3) := by decide +kernel
theorem dX5_isLot_5 : decode cX5_isLot 5 = .ok (.ifCond .eq 17, 3) := by decide +kernel
theorem dX5_isLot_8 : decode cX5_isLot 8 = .ok (.aload_n 0, 1) := by decide +kernel
theorem dX5_isLot_9 : decode cX5_isLot 9 = .ok (.getfield 9, 3) := by decide +kernel
theorem dX5_isLot_12 : decode cX5_isLot 12 = .ok (.iload_n 1, 1) := by decide +kernel
theorem dX5_isLot_13 : decode cX5_isLot 13 = .ok (.iaload, 1) := by decide +kernel
theorem dX5_isLot_14 : decode cX5_isLot 14 = .ok (.iconst (-1), 1) := by decide +kernel
theorem dX5_isLot_15 : decode cX5_isLot 15 = .ok (.if_icmp .ne 7, 3) := by decide +kernel
theorem dX5_isLot_18 : decode cX5_isLot 18 = .ok (.iconst 1, 1) := by decide +kernel
theorem dX5_isLot_19 : decode cX5_isLot 19 = .ok (.goto 4, 3) := by decide +kernel
theorem dX5_isLot_22 : decode cX5_isLot 22 = .ok (.iconst 0, 1) := by decide +kernel
theorem dX5_isLot_23 : decode cX5_isLot 23 = .ok (.ireturn, 1) := by decide +kernel
theorem dX5_make_0 : decode cX5_make 0 = .ok (.aload_n 0, 1) := by decide +kernel
theorem dX5_make_1 : decode cX5_make 1 = .ok (.getfield 76, 3) := by decide +kernel
theorem dX5_make_4 : decode cX5_make 4 = .ok (.bipush 48, 2) := by decide +kernel
theorem dX5_make_6 : decode cX5_make 6 = .ok (.if_icmp .ne 6, 3) := by decide +kernel
theorem dX5_make_9 : decode cX5_make 9 = .ok (.bipush (-2), 2) := by decide +kernel
theorem dX5_make_11 : decode cX5_make 11 = .ok (.ireturn, 1) := by decide +kernel
theorem dX5_make_12 : decode cX5_make 12 = .ok (.aload_n 0, 1) := by decide +kernel
theorem dX5_make_13 : decode cX5_make 13 = .ok (.getfield 9, 3) := by decide +kernel
theorem dX5_make_16 : decode cX5_make 16 = .ok (.aload_n 0, 1) := by decide +kernel
theorem dX5_make_17 : decode cX5_make 17 = .ok (.getfield 76, 3) := by decide +kernel
theorem dX5_make_20 : decode cX5_make 20 = .ok (.iload_n 1, 1) := by decide +kernel
theorem dX5_make_21 : decode cX5_make 21 = .ok (.iastore, 1) := by decide +kernel
theorem dX5_make_22 : decode cX5_make 22 = .ok (.aload_n 0, 1) := by decide +kernel
theorem dX5_make_23 : decode cX5_make 23 = .ok (.getfield 13, 3) := by decide +kernel
theorem dX5_make_26 : decode cX5_make 26 = .ok (.aload_n 0, 1) := by decide +kernel
theorem dX5_make_27 : decode cX5_make 27 = .ok (.getfield 76, 3) := by decide +kernel
theorem dX5_make_30 : decode cX5_make 30 = .ok (.lload_n 2, 1) := by decide +kernel
theorem dX5_make_31 : decode cX5_make 31 = .ok (.lastore, 1) := by decide +kernel
theorem dX5_make_32 : decode cX5_make 32 = .ok (.aload_n 0, 1) := by decide +kernel
theorem dX5_make_33 : decode cX5_make 33 = .ok (.getfield 17, 3) := by decide +kernel
theorem dX5_make_36 : decode cX5_make 36 = .ok (.aload_n 0, 1) := by decide +kernel
theorem dX5_make_37 : decode cX5_make 37 = .ok (.getfield 76, 3) := by decide +kernel
theorem dX5_make_40 : decode cX5_make 40 = .ok (.lload 4, 2) := by decide +kernel
theorem dX5_make_42 : decode cX5_make 42 = .ok (.lastore, 1) := by decide +kernel
theorem dX5_make_43 : decode cX5_make 43 = .ok (.aload_n 0, 1) := by decide +kernel
theorem dX5_make_44 : decode cX5_make 44 = .ok (.getfield 20, 3) := by decide +kernel
theorem dX5_make_47 : decode cX5_make 47 = .ok (.aload_n 0, 1) := by decide +kernel
theorem dX5_make_48 : decode cX5_make 48 = .ok (.getfield 76, 3) := by decide +kernel
theorem dX5_make_51 : decode cX5_make 51 = .ok (.iconst (-1), 1) := by decide +kernel
theorem dX5_make_52 : decode cX5_make 52 = .ok (.iastore, 1) := by decide +kernel
theorem dX5_make_53 : decode cX5_make 53 = .ok (.aload_n 0, 1) := by decide +kernel
theorem dX5_make_54 : decode cX5_make 54 = .ok (.getfield 23, 3) := by decide +kernel
theorem dX5_make_57 : decode cX5_make 57 = .ok (.aload_n 0, 1) := by decide +kernel
theorem dX5_make_58 : decode cX5_make 58 = .ok (.getfield 76, 3) := by decide +kernel
theorem dX5_make_61 : decode cX5_make 61 = .ok (.iconst (-1), 1) := by decide +kernel
theorem dX5_make_62 : decode cX5_make 62 = .ok (.iastore, 1) := by decide +kernel
theorem dX5_make_63 : decode cX5_make 63 = .ok (.aload_n 0, 1) := by decide +kernel
theorem dX5_make_64 : decode cX5_make 64 = .ok (.getfield 26, 3) := by decide +kernel
theorem dX5_make_67 : decode cX5_make 67 = .ok (.aload_n 0, 1) := by decide +kernel
theorem dX5_make_68 : decode cX5_make 68 = .ok (.getfield 76, 3) := by decide +kernel
theorem dX5_make_71 : decode cX5_make 71 = .ok (.iconst 0, 1) := by decide +kernel
theorem dX5_make_72 : decode cX5_make 72 = .ok (.bastore, 1) := by decide +kernel
theorem dX5_make_73 : decode cX5_make 73 = .ok (.aload_n 0, 1) := by decide +kernel
theorem dX5_make_74 : decode cX5_make 74 = .ok (.dup, 1) := by decide +kernel
theorem dX5_make_75 : decode cX5_make 75 = .ok (.getfield 76, 3) := by decide +kernel
theorem dX5_make_78 : decode cX5_make 78 = .ok (.iconst 1, 1) := by decide +kernel
theorem dX5_make_79 : decode cX5_make 79 = .ok (.iadd, 1) := by decide +kernel
theorem dX5_make_80 : decode cX5_make 80 = .ok (.putfield 76, 3) := by decide +kernel
theorem dX5_make_83 : decode cX5_make 83 = .ok (.aload_n 0, 1) := by decide +kernel
theorem dX5_make_84 : decode cX5_make 84 = .ok (.getfield 76, 3) := by decide +kernel
theorem dX5_make_87 : decode cX5_make 87 = .ok (.iconst 1, 1) := by decide +kernel
theorem dX5_make_88 : decode cX5_make 88 = .ok (.isub, 1) := by decide +kernel
theorem dX5_make_89 : decode cX5_make 89 = .ok (.ireturn, 1) := by decide +kernel
theorem dX5_lot_0 : decode cX5_lot 0 = .ok (.aload_n 0, 1) := by decide +kernel
theorem dX5_lot_1 : decode cX5_lot 1 = .ok (.iconst 0, 1) := by decide +kernel
theorem dX5_lot_2 : decode cX5_lot 2 = .ok (.putfield 72, 3) := by decide +kernel
theorem dX5_lot_5 : decode cX5_lot 5 = .ok (.lload_n 1, 1) := by decide +kernel
theorem dX5_lot_6 : decode cX5_lot 6 = .ok (.lconst 1, 1) := by decide +kernel
theorem dX5_lot_7 : decode cX5_lot 7 = .ok (.lcmp, 1) := by decide +kernel
theorem dX5_lot_8 : decode cX5_lot 8 = .ok (.ifCond .lt 25, 3) := by decide +kernel
theorem dX5_lot_11 : decode cX5_lot 11 = .ok (.lload_n 1, 1) := by decide +kernel
theorem dX5_lot_12 : decode cX5_lot 12 = .ok (.ldc2_w 83, 3) := by decide +kernel
theorem dX5_lot_15 : decode cX5_lot 15 = .ok (.lcmp, 1) := by decide +kernel
theorem dX5_lot_16 : decode cX5_lot 16 = .ok (.ifCond .gt 17, 3) := by decide +kernel
theorem dX5_lot_19 : decode cX5_lot 19 = .ok (.lload_n 3, 1) := by decide +kernel
theorem dX5_lot_20 : decode cX5_lot 20 = .ok (.lconst 0, 1) := by decide +kernel
theorem dX5_lot_21 : decode cX5_lot 21 = .ok (.lcmp, 1) := by decide +kernel
theorem dX5_lot_22 : decode cX5_lot 22 = .ok (.ifCond .lt 11, 3) := by decide +kernel
theorem dX5_lot_25 : decode cX5_lot 25 = .ok (.lload_n 3, 1) := by decide +kernel
theorem dX5_lot_26 : decode cX5_lot 26 = .ok (.ldc2_w 85, 3) := by decide +kernel
theorem dX5_lot_29 : decode cX5_lot 29 = .ok (.lcmp, 1) := by decide +kernel
theorem dX5_lot_30 : decode cX5_lot 30 = .ok (.ifCond .le 7, 3) := by decide +kernel
theorem dX5_lot_33 : decode cX5_lot 33 = .ok (.iconst (-1), 1) := by decide +kernel
theorem dX5_lot_34 : decode cX5_lot 34 = .ok (.goto 10, 3) := by decide +kernel
theorem dX5_lot_37 : decode cX5_lot 37 = .ok (.aload_n 0, 1) := by decide +kernel
theorem dX5_lot_38 : decode cX5_lot 38 = .ok (.iconst (-1), 1) := by decide +kernel
theorem dX5_lot_39 : decode cX5_lot 39 = .ok (.lload_n 1, 1) := by decide +kernel
theorem dX5_lot_40 : decode cX5_lot 40 = .ok (.lload_n 3, 1) := by decide +kernel
theorem dX5_lot_41 : decode cX5_lot 41 = .ok (.invokevirtual 87, 3) := by decide +kernel
theorem dX5_lot_44 : decode cX5_lot 44 = .ok (.ireturn, 1) := by decide +kernel
theorem dX5_thing_0 : decode cX5_thing 0 = .ok (.aload_n 0, 1) := by decide +kernel
theorem dX5_thing_1 : decode cX5_thing 1 = .ok (.iconst 0, 1) := by decide +kernel
theorem dX5_thing_2 : decode cX5_thing 2 = .ok (.putfield 72, 3) := by decide +kernel
theorem dX5_thing_5 : decode cX5_thing 5 = .ok (.iload_n 1, 1) := by decide +kernel
theorem dX5_thing_6 : decode cX5_thing 6 = .ok (.ifCond .lt 8, 3) := by decide +kernel
theorem dX5_thing_9 : decode cX5_thing 9 = .ok (.iload_n 1, 1) := by decide +kernel
theorem dX5_thing_10 : decode cX5_thing 10 = .ok (.iconst 4, 1) := by decide +kernel
theorem dX5_thing_11 : decode cX5_thing 11 = .ok (.if_icmp .le 7, 3) := by decide +kernel
theorem dX5_thing_14 : decode cX5_thing 14 = .ok (.iconst (-1), 1) := by decide +kernel
theorem dX5_thing_15 : decode cX5_thing 15 = .ok (.goto 10, 3) := by decide +kernel
theorem dX5_thing_18 : decode cX5_thing 18 = .ok (.aload_n 0, 1) := by decide +kernel
theorem dX5_thing_19 : decode cX5_thing 19 = .ok (.iload_n 1, 1) := by decide +kernel
theorem dX5_thing_20 : decode cX5_thing 20 = .ok (.lconst 0, 1) := by decide +kernel
theorem dX5_thing_21 : decode cX5_thing 21 = .ok (.lconst 0, 1) := by decide +kernel
theorem dX5_thing_22 : decode cX5_thing 22 = .ok (.invokevirtual 87, 3) := by decide +kernel
theorem dX5_thing_25 : decode cX5_thing 25 = .ok (.ireturn, 1) := by decide +kernel
theorem dX5_part_0 : decode cX5_part 0 = .ok (.lload_n 2, 1) := by decide +kernel
theorem dX5_part_1 : decode cX5_part 1 = .ok (.lstore 6, 2) := by decide +kernel
theorem dX5_part_3 : decode cX5_part 3 = .ok (.iconst 0, 1) := by decide +kernel
theorem dX5_part_4 : decode cX5_part 4 = .ok (.istore 8, 2) := by decide +kernel
theorem dX5_part_6 : decode cX5_part 6 = .ok (.iload 8, 2) := by decide +kernel
theorem dX5_part_8 : decode cX5_part 8 = .ok (.aload_n 0, 1) := by decide +kernel
theorem dX5_part_9 : decode cX5_part 9 = .ok (.getfield 76, 3) := by decide +kernel
theorem dX5_part_12 : decode cX5_part 12 = .ok (.if_icmp .ge 63, 3) := by decide +kernel
theorem dX5_part_15 : decode cX5_part 15 = .ok (.aload_n 0, 1) := by decide +kernel
theorem dX5_part_16 : decode cX5_part 16 = .ok (.getfield 42, 3) := by decide +kernel
theorem dX5_part_19 : decode cX5_part 19 = .ok (.bipush 48, 2) := by decide +kernel
theorem dX5_part_21 : decode cX5_part 21 = .ok (.iload_n 1, 1) := by decide +kernel
theorem dX5_part_22 : decode cX5_part 22 = .ok (.imul, 1) := by decide +kernel
theorem dX5_part_23 : decode cX5_part 23 = .ok (.iload 8, 2) := by decide +kernel
theorem dX5_part_25 : decode cX5_part 25 = .ok (.iadd, 1) := by decide +kernel
theorem dX5_part_26 : decode cX5_part 26 = .ok (.laload, 1) := by decide +kernel
theorem dX5_part_27 : decode cX5_part 27 = .ok (.lstore 9, 2) := by decide +kernel
theorem dX5_part_29 : decode cX5_part 29 = .ok (.aload_n 0, 1) := by decide +kernel
theorem dX5_part_30 : decode cX5_part 30 = .ok (.getfield 54, 3) := by decide +kernel
theorem dX5_part_33 : decode cX5_part 33 = .ok (.iload 8, 2) := by decide +kernel
theorem dX5_part_35 : decode cX5_part 35 = .ok (.lload 9, 2) := by decide +kernel
theorem dX5_part_37 : decode cX5_part 37 = .ok (.lload_n 2, 1) := by decide +kernel
theorem dX5_part_38 : decode cX5_part 38 = .ok (.lmul, 1) := by decide +kernel
theorem dX5_part_39 : decode cX5_part 39 = .ok (.lload 4, 2) := by decide +kernel
theorem dX5_part_41 : decode cX5_part 41 = .ok (.ldiv, 1) := by decide +kernel
theorem dX5_part_42 : decode cX5_part 42 = .ok (.lastore, 1) := by decide +kernel
theorem dX5_part_43 : decode cX5_part 43 = .ok (.aload_n 0, 1) := by decide +kernel
theorem dX5_part_44 : decode cX5_part 44 = .ok (.getfield 51, 3) := by decide +kernel
theorem dX5_part_47 : decode cX5_part 47 = .ok (.iload 8, 2) := by decide +kernel
theorem dX5_part_49 : decode cX5_part 49 = .ok (.lload 9, 2) := by decide +kernel
theorem dX5_part_51 : decode cX5_part 51 = .ok (.lload_n 2, 1) := by decide +kernel
theorem dX5_part_52 : decode cX5_part 52 = .ok (.lmul, 1) := by decide +kernel
theorem dX5_part_53 : decode cX5_part 53 = .ok (.lload 4, 2) := by decide +kernel
theorem dX5_part_55 : decode cX5_part 55 = .ok (.lrem, 1) := by decide +kernel
theorem dX5_part_56 : decode cX5_part 56 = .ok (.lastore, 1) := by decide +kernel
theorem dX5_part_57 : decode cX5_part 57 = .ok (.lload 6, 2) := by decide +kernel
theorem dX5_part_59 : decode cX5_part 59 = .ok (.aload_n 0, 1) := by decide +kernel
theorem dX5_part_60 : decode cX5_part 60 = .ok (.getfield 54, 3) := by decide +kernel
theorem dX5_part_63 : decode cX5_part 63 = .ok (.iload 8, 2) := by decide +kernel
theorem dX5_part_65 : decode cX5_part 65 = .ok (.laload, 1) := by decide +kernel
theorem dX5_part_66 : decode cX5_part 66 = .ok (.lsub, 1) := by decide +kernel
theorem dX5_part_67 : decode cX5_part 67 = .ok (.lstore 6, 2) := by decide +kernel
theorem dX5_part_69 : decode cX5_part 69 = .ok (.iinc 8 1, 3) := by decide +kernel
theorem dX5_part_72 : decode cX5_part 72 = .ok (.goto (-66), 3) := by decide +kernel
theorem dX5_part_75 : decode cX5_part 75 = .ok (.lload 6, 2) := by decide +kernel
theorem dX5_part_77 : decode cX5_part 77 = .ok (.lconst 0, 1) := by decide +kernel
theorem dX5_part_78 : decode cX5_part 78 = .ok (.lcmp, 1) := by decide +kernel
theorem dX5_part_79 : decode cX5_part 79 = .ok (.ifCond .le 81, 3) := by decide +kernel
theorem dX5_part_82 : decode cX5_part 82 = .ok (.iconst 0, 1) := by decide +kernel
theorem dX5_part_83 : decode cX5_part 83 = .ok (.istore 8, 2) := by decide +kernel
theorem dX5_part_85 : decode cX5_part 85 = .ok (.iconst 1, 1) := by decide +kernel
theorem dX5_part_86 : decode cX5_part 86 = .ok (.istore 9, 2) := by decide +kernel
theorem dX5_part_88 : decode cX5_part 88 = .ok (.iload 9, 2) := by decide +kernel
theorem dX5_part_90 : decode cX5_part 90 = .ok (.aload_n 0, 1) := by decide +kernel
theorem dX5_part_91 : decode cX5_part 91 = .ok (.getfield 76, 3) := by decide +kernel
theorem dX5_part_94 : decode cX5_part 94 = .ok (.if_icmp .ge 36, 3) := by decide +kernel
theorem dX5_part_97 : decode cX5_part 97 = .ok (.aload_n 0, 1) := by decide +kernel
theorem dX5_part_98 : decode cX5_part 98 = .ok (.getfield 51, 3) := by decide +kernel
theorem dX5_part_101 : decode cX5_part 101 = .ok (.iload 9, 2) := by decide +kernel
theorem dX5_part_103 : decode cX5_part 103 = .ok (.laload, 1) := by decide +kernel
theorem dX5_part_104 : decode cX5_part 104 = .ok (.aload_n 0, 1) := by decide +kernel
theorem dX5_part_105 : decode cX5_part 105 = .ok (.getfield 51, 3) := by decide +kernel
theorem dX5_part_108 : decode cX5_part 108 = .ok (.iload 8, 2) := by decide +kernel
theorem dX5_part_110 : decode cX5_part 110 = .ok (.laload, 1) := by decide +kernel
theorem dX5_part_111 : decode cX5_part 111 = .ok (.lcmp, 1) := by decide +kernel
theorem dX5_part_112 : decode cX5_part 112 = .ok (.ifCond .le 8, 3) := by decide +kernel
theorem dX5_part_115 : decode cX5_part 115 = .ok (.iload 9, 2) := by decide +kernel
theorem dX5_part_117 : decode cX5_part 117 = .ok (.goto 5, 3) := by decide +kernel
theorem dX5_part_120 : decode cX5_part 120 = .ok (.iload 8, 2) := by decide +kernel
theorem dX5_part_122 : decode cX5_part 122 = .ok (.istore 8, 2) := by decide +kernel
theorem dX5_part_124 : decode cX5_part 124 = .ok (.iinc 9 1, 3) := by decide +kernel
theorem dX5_part_127 : decode cX5_part 127 = .ok (.goto (-39), 3) := by decide +kernel
theorem dX5_part_130 : decode cX5_part 130 = .ok (.aload_n 0, 1) := by decide +kernel
theorem dX5_part_131 : decode cX5_part 131 = .ok (.getfield 54, 3) := by decide +kernel
theorem dX5_part_134 : decode cX5_part 134 = .ok (.iload 8, 2) := by decide +kernel
theorem dX5_part_136 : decode cX5_part 136 = .ok (.dup2, 1) := by decide +kernel
theorem dX5_part_137 : decode cX5_part 137 = .ok (.laload, 1) := by decide +kernel
theorem dX5_part_138 : decode cX5_part 138 = .ok (.lconst 1, 1) := by decide +kernel
theorem dX5_part_139 : decode cX5_part 139 = .ok (.ladd, 1) := by decide +kernel
theorem dX5_part_140 : decode cX5_part 140 = .ok (.lastore, 1) := by decide +kernel
theorem dX5_part_141 : decode cX5_part 141 = .ok (.aload_n 0, 1) := by decide +kernel
theorem dX5_part_142 : decode cX5_part 142 = .ok (.getfield 51, 3) := by decide +kernel
theorem dX5_part_145 : decode cX5_part 145 = .ok (.iload 8, 2) := by decide +kernel
theorem dX5_part_147 : decode cX5_part 147 = .ok (.ldc2_w 91, 3) := by decide +kernel
theorem dX5_part_150 : decode cX5_part 150 = .ok (.lastore, 1) := by decide +kernel
theorem dX5_part_151 : decode cX5_part 151 = .ok (.lload 6, 2) := by decide +kernel
theorem dX5_part_153 : decode cX5_part 153 = .ok (.lconst 1, 1) := by decide +kernel
theorem dX5_part_154 : decode cX5_part 154 = .ok (.lsub, 1) := by decide +kernel
theorem dX5_part_155 : decode cX5_part 155 = .ok (.lstore 6, 2) := by decide +kernel
theorem dX5_part_157 : decode cX5_part 157 = .ok (.goto (-82), 3) := by decide +kernel
theorem dX5_part_160 : decode cX5_part 160 = .ok (.return_, 1) := by decide +kernel
theorem dX5_walk_0 : decode cX5_walk 0 = .ok (.iconst 0, 1) := by decide +kernel
theorem dX5_walk_1 : decode cX5_walk 1 = .ok (.istore_n 1, 1) := by decide +kernel
theorem dX5_walk_2 : decode cX5_walk 2 = .ok (.iload_n 1, 1) := by decide +kernel
theorem dX5_walk_3 : decode cX5_walk 3 = .ok (.aload_n 0, 1) := by decide +kernel
theorem dX5_walk_4 : decode cX5_walk 4 = .ok (.getfield 76, 3) := by decide +kernel
theorem dX5_walk_7 : decode cX5_walk 7 = .ok (.if_icmp .ge 83, 3) := by decide +kernel
theorem dX5_walk_10 : decode cX5_walk 10 = .ok (.iconst 0, 1) := by decide +kernel
theorem dX5_walk_11 : decode cX5_walk 11 = .ok (.istore_n 2, 1) := by decide +kernel
theorem dX5_walk_12 : decode cX5_walk 12 = .ok (.iload_n 2, 1) := by decide +kernel
theorem dX5_walk_13 : decode cX5_walk 13 = .ok (.aload_n 0, 1) := by decide +kernel
theorem dX5_walk_14 : decode cX5_walk 14 = .ok (.getfield 76, 3) := by decide +kernel
theorem dX5_walk_17 : decode cX5_walk 17 = .ok (.if_icmp .ge 67, 3) := by decide +kernel
theorem dX5_walk_20 : decode cX5_walk 20 = .ok (.iload_n 1, 1) := by decide +kernel
theorem dX5_walk_21 : decode cX5_walk 21 = .ok (.iload_n 2, 1) := by decide +kernel
theorem dX5_walk_22 : decode cX5_walk 22 = .ok (.if_icmp .ne 17, 3) := by decide +kernel
theorem dX5_walk_25 : decode cX5_walk 25 = .ok (.aload_n 0, 1) := by decide +kernel
theorem dX5_walk_26 : decode cX5_walk 26 = .ok (.getfield 9, 3) := by decide +kernel
theorem dX5_walk_29 : decode cX5_walk 29 = .ok (.iload_n 1, 1) := by decide +kernel
theorem dX5_walk_30 : decode cX5_walk 30 = .ok (.iaload, 1) := by decide +kernel
theorem dX5_walk_31 : decode cX5_walk 31 = .ok (.iconst (-1), 1) := by decide +kernel
theorem dX5_walk_32 : decode cX5_walk 32 = .ok (.if_icmp .ne 7, 3) := by decide +kernel
theorem dX5_walk_35 : decode cX5_walk 35 = .ok (.iconst 1, 1) := by decide +kernel
theorem dX5_walk_36 : decode cX5_walk 36 = .ok (.goto 4, 3) := by decide +kernel
theorem dX5_walk_39 : decode cX5_walk 39 = .ok (.iconst 0, 1) := by decide +kernel
theorem dX5_walk_40 : decode cX5_walk 40 = .ok (.istore_n 3, 1) := by decide +kernel
theorem dX5_walk_41 : decode cX5_walk 41 = .ok (.aload_n 0, 1) := by decide +kernel
theorem dX5_walk_42 : decode cX5_walk 42 = .ok (.getfield 42, 3) := by decide +kernel
theorem dX5_walk_45 : decode cX5_walk 45 = .ok (.bipush 48, 2) := by decide +kernel
theorem dX5_walk_47 : decode cX5_walk 47 = .ok (.iload_n 1, 1) := by decide +kernel
theorem dX5_walk_48 : decode cX5_walk 48 = .ok (.imul, 1) := by decide +kernel
theorem dX5_walk_49 : decode cX5_walk 49 = .ok (.iload_n 2, 1) := by decide +kernel
theorem dX5_walk_50 : decode cX5_walk 50 = .ok (.iadd, 1) := by decide +kernel
theorem dX5_walk_51 : decode cX5_walk 51 = .ok (.iload_n 3, 1) := by decide +kernel
theorem dX5_walk_52 : decode cX5_walk 52 = .ok (.ifCond .eq 12, 3) := by decide +kernel
theorem dX5_walk_55 : decode cX5_walk 55 = .ok (.aload_n 0, 1) := by decide +kernel
theorem dX5_walk_56 : decode cX5_walk 56 = .ok (.getfield 13, 3) := by decide +kernel
theorem dX5_walk_59 : decode cX5_walk 59 = .ok (.iload_n 1, 1) := by decide +kernel
theorem dX5_walk_60 : decode cX5_walk 60 = .ok (.laload, 1) := by decide +kernel
theorem dX5_walk_61 : decode cX5_walk 61 = .ok (.goto 4, 3) := by decide +kernel
theorem dX5_walk_64 : decode cX5_walk 64 = .ok (.lconst 0, 1) := by decide +kernel
theorem dX5_walk_65 : decode cX5_walk 65 = .ok (.lastore, 1) := by decide +kernel
theorem dX5_walk_66 : decode cX5_walk 66 = .ok (.aload_n 0, 1) := by decide +kernel
theorem dX5_walk_67 : decode cX5_walk 67 = .ok (.getfield 45, 3) := by decide +kernel
theorem dX5_walk_70 : decode cX5_walk 70 = .ok (.bipush 48, 2) := by decide +kernel
theorem dX5_walk_72 : decode cX5_walk 72 = .ok (.iload_n 1, 1) := by decide +kernel
theorem dX5_walk_73 : decode cX5_walk 73 = .ok (.imul, 1) := by decide +kernel
theorem dX5_walk_74 : decode cX5_walk 74 = .ok (.iload_n 2, 1) := by decide +kernel
theorem dX5_walk_75 : decode cX5_walk 75 = .ok (.iadd, 1) := by decide +kernel
theorem dX5_walk_76 : decode cX5_walk 76 = .ok (.iload_n 3, 1) := by decide +kernel
theorem dX5_walk_77 : decode cX5_walk 77 = .ok (.bastore, 1) := by decide +kernel
theorem dX5_walk_78 : decode cX5_walk 78 = .ok (.iinc 2 1, 3) := by decide +kernel
theorem dX5_walk_81 : decode cX5_walk 81 = .ok (.goto (-69), 3) := by decide +kernel
theorem dX5_walk_84 : decode cX5_walk 84 = .ok (.iinc 1 1, 3) := by decide +kernel
theorem dX5_walk_87 : decode cX5_walk 87 = .ok (.goto (-85), 3) := by decide +kernel
theorem dX5_walk_90 : decode cX5_walk 90 = .ok (.iconst 0, 1) := by decide +kernel
theorem dX5_walk_91 : decode cX5_walk 91 = .ok (.istore_n 1, 1) := by decide +kernel
theorem dX5_walk_92 : decode cX5_walk 92 = .ok (.iload_n 1, 1) := by decide +kernel
theorem dX5_walk_93 : decode cX5_walk 93 = .ok (.aload_n 0, 1) := by decide +kernel
theorem dX5_walk_94 : decode cX5_walk 94 = .ok (.getfield 93, 3) := by decide +kernel
theorem dX5_walk_97 : decode cX5_walk 97 = .ok (.if_icmp .ge 65, 3) := by decide +kernel
theorem dX5_walk_100 : decode cX5_walk 100 = .ok (.iload_n 1, 1) := by decide +kernel
theorem dX5_walk_101 : decode cX5_walk 101 = .ok (.istore_n 2, 1) := by decide +kernel
theorem dX5_walk_102 : decode cX5_walk 102 = .ok (.iload_n 2, 1) := by decide +kernel
theorem dX5_walk_103 : decode cX5_walk 103 = .ok (.ifCond .le 46, 3) := by decide +kernel
theorem dX5_walk_106 : decode cX5_walk 106 = .ok (.aload_n 0, 1) := by decide +kernel
theorem dX5_walk_107 : decode cX5_walk 107 = .ok (.getfield 39, 3) := by decide +kernel
theorem dX5_walk_110 : decode cX5_walk 110 = .ok (.aload_n 0, 1) := by decide +kernel
theorem dX5_walk_111 : decode cX5_walk 111 = .ok (.getfield 57, 3) := by decide +kernel
theorem dX5_walk_114 : decode cX5_walk 114 = .ok (.iload_n 2, 1) := by decide +kernel
theorem dX5_walk_115 : decode cX5_walk 115 = .ok (.iconst 1, 1) := by decide +kernel
theorem dX5_walk_116 : decode cX5_walk 116 = .ok (.isub, 1) := by decide +kernel
theorem dX5_walk_117 : decode cX5_walk 117 = .ok (.iaload, 1) := by decide +kernel
theorem dX5_walk_118 : decode cX5_walk 118 = .ok (.laload, 1) := by decide +kernel
theorem dX5_walk_119 : decode cX5_walk 119 = .ok (.aload_n 0, 1) := by decide +kernel
theorem dX5_walk_120 : decode cX5_walk 120 = .ok (.getfield 39, 3) := by decide +kernel
theorem dX5_walk_123 : decode cX5_walk 123 = .ok (.iload_n 1, 1) := by decide +kernel
theorem dX5_walk_124 : decode cX5_walk 124 = .ok (.laload, 1) := by decide +kernel
theorem dX5_walk_125 : decode cX5_walk 125 = .ok (.lcmp, 1) := by decide +kernel
theorem dX5_walk_126 : decode cX5_walk 126 = .ok (.ifCond .le 23, 3) := by decide +kernel
theorem dX5_walk_129 : decode cX5_walk 129 = .ok (.aload_n 0, 1) := by decide +kernel
theorem dX5_walk_130 : decode cX5_walk 130 = .ok (.getfield 57, 3) := by decide +kernel
theorem dX5_walk_133 : decode cX5_walk 133 = .ok (.iload_n 2, 1) := by decide +kernel
theorem dX5_walk_134 : decode cX5_walk 134 = .ok (.aload_n 0, 1) := by decide +kernel
theorem dX5_walk_135 : decode cX5_walk 135 = .ok (.getfield 57, 3) := by decide +kernel
theorem dX5_walk_138 : decode cX5_walk 138 = .ok (.iload_n 2, 1) := by decide +kernel
theorem dX5_walk_139 : decode cX5_walk 139 = .ok (.iconst 1, 1) := by decide +kernel
theorem dX5_walk_140 : decode cX5_walk 140 = .ok (.isub, 1) := by decide +kernel
theorem dX5_walk_141 : decode cX5_walk 141 = .ok (.iaload, 1) := by decide +kernel
theorem dX5_walk_142 : decode cX5_walk 142 = .ok (.iastore, 1) := by decide +kernel
theorem dX5_walk_143 : decode cX5_walk 143 = .ok (.iinc 2 (-1), 3) := by decide +kernel
theorem dX5_walk_146 : decode cX5_walk 146 = .ok (.goto (-44), 3) := by decide +kernel
theorem dX5_walk_149 : decode cX5_walk 149 = .ok (.aload_n 0, 1) := by decide +kernel
theorem dX5_walk_150 : decode cX5_walk 150 = .ok (.getfield 57, 3) := by decide +kernel
theorem dX5_walk_153 : decode cX5_walk 153 = .ok (.iload_n 2, 1) := by decide +kernel
theorem dX5_walk_154 : decode cX5_walk 154 = .ok (.iload_n 1, 1) := by decide +kernel
theorem dX5_walk_155 : decode cX5_walk 155 = .ok (.iastore, 1) := by decide +kernel
theorem dX5_walk_156 : decode cX5_walk 156 = .ok (.iinc 1 1, 3) := by decide +kernel
theorem dX5_walk_159 : decode cX5_walk 159 = .ok (.goto (-67), 3) := by decide +kernel
theorem dX5_walk_162 : decode cX5_walk 162 = .ok (.iconst 0, 1) := by decide +kernel
theorem dX5_walk_163 : decode cX5_walk 163 = .ok (.istore_n 1, 1) := by decide +kernel
theorem dX5_walk_164 : decode cX5_walk 164 = .ok (.iload_n 1, 1) := by decide +kernel
theorem dX5_walk_165 : decode cX5_walk 165 = .ok (.aload_n 0, 1) := by decide +kernel
theorem dX5_walk_166 : decode cX5_walk 166 = .ok (.getfield 93, 3) := by decide +kernel
theorem dX5_walk_169 : decode cX5_walk 169 = .ok (.if_icmp .ge 215, 3) := by decide +kernel
theorem dX5_walk_172 : decode cX5_walk 172 = .ok (.aload_n 0, 1) := by decide +kernel
theorem dX5_walk_173 : decode cX5_walk 173 = .ok (.getfield 57, 3) := by decide +kernel
theorem dX5_walk_176 : decode cX5_walk 176 = .ok (.iload_n 1, 1) := by decide +kernel
theorem dX5_walk_177 : decode cX5_walk 177 = .ok (.iaload, 1) := by decide +kernel
theorem dX5_walk_178 : decode cX5_walk 178 = .ok (.istore_n 2, 1) := by decide +kernel
theorem dX5_walk_179 : decode cX5_walk 179 = .ok (.aload_n 0, 1) := by decide +kernel
theorem dX5_walk_180 : decode cX5_walk 180 = .ok (.getfield 30, 3) := by decide +kernel
theorem dX5_walk_183 : decode cX5_walk 183 = .ok (.iload_n 2, 1) := by decide +kernel
theorem dX5_walk_184 : decode cX5_walk 184 = .ok (.iaload, 1) := by decide +kernel
theorem dX5_walk_185 : decode cX5_walk 185 = .ok (.istore_n 3, 1) := by decide +kernel
theorem dX5_walk_186 : decode cX5_walk 186 = .ok (.aload_n 0, 1) := by decide +kernel
theorem dX5_walk_187 : decode cX5_walk 187 = .ok (.iload_n 3, 1) := by decide +kernel
theorem dX5_walk_188 : decode cX5_walk 188 = .ok (.invokevirtual 96, 3) := by decide +kernel
theorem dX5_walk_191 : decode cX5_walk 191 = .ok (.lstore 4, 2) := by decide +kernel
theorem dX5_walk_193 : decode cX5_walk 193 = .ok (.aload_n 0, 1) := by decide +kernel
theorem dX5_walk_194 : decode cX5_walk 194 = .ok (.getfield 36, 3) := by decide +kernel
theorem dX5_walk_197 : decode cX5_walk 197 = .ok (.iload_n 2, 1) := by decide +kernel
theorem dX5_walk_198 : decode cX5_walk 198 = .ok (.laload, 1) := by decide +kernel
theorem dX5_walk_199 : decode cX5_walk 199 = .ok (.lload 4, 2) := by decide +kernel
theorem dX5_walk_201 : decode cX5_walk 201 = .ok (.lcmp, 1) := by decide +kernel
theorem dX5_walk_202 : decode cX5_walk 202 = .ok (.ifCond .gt 29, 3) := by decide +kernel
theorem dX5_walk_205 : decode cX5_walk 205 = .ok (.aload_n 0, 1) := by decide +kernel
theorem dX5_walk_206 : decode cX5_walk 206 = .ok (.getfield 9, 3) := by decide +kernel
theorem dX5_walk_209 : decode cX5_walk 209 = .ok (.iload_n 3, 1) := by decide +kernel
theorem dX5_walk_210 : decode cX5_walk 210 = .ok (.iaload, 1) := by decide +kernel
theorem dX5_walk_211 : decode cX5_walk 211 = .ok (.iconst (-1), 1) := by decide +kernel
theorem dX5_walk_212 : decode cX5_walk 212 = .ok (.if_icmp .ne 21, 3) := by decide +kernel
theorem dX5_walk_215 : decode cX5_walk 215 = .ok (.aload_n 0, 1) := by decide +kernel
theorem dX5_walk_216 : decode cX5_walk 216 = .ok (.getfield 39, 3) := by decide +kernel
theorem dX5_walk_219 : decode cX5_walk 219 = .ok (.iload_n 2, 1) := by decide +kernel
theorem dX5_walk_220 : decode cX5_walk 220 = .ok (.laload, 1) := by decide +kernel
theorem dX5_walk_221 : decode cX5_walk 221 = .ok (.aload_n 0, 1) := by decide +kernel
theorem dX5_walk_222 : decode cX5_walk 222 = .ok (.getfield 17, 3) := by decide +kernel
theorem dX5_walk_225 : decode cX5_walk 225 = .ok (.iload_n 3, 1) := by decide +kernel
theorem dX5_walk_226 : decode cX5_walk 226 = .ok (.laload, 1) := by decide +kernel
theorem dX5_walk_227 : decode cX5_walk 227 = .ok (.lcmp, 1) := by decide +kernel
theorem dX5_walk_228 : decode cX5_walk 228 = .ok (.ifCond .ge 5, 3) := by decide +kernel
theorem dX5_walk_231 : decode cX5_walk 231 = .ok (.iconst 0, 1) := by decide +kernel
theorem dX5_walk_232 : decode cX5_walk 232 = .ok (.ireturn, 1) := by decide +kernel
theorem dX5_walk_233 : decode cX5_walk 233 = .ok (.aload_n 0, 1) := by decide +kernel
theorem dX5_walk_234 : decode cX5_walk 234 = .ok (.getfield 36, 3) := by decide +kernel
theorem dX5_walk_237 : decode cX5_walk 237 = .ok (.iload_n 2, 1) := by decide +kernel
theorem dX5_walk_238 : decode cX5_walk 238 = .ok (.laload, 1) := by decide +kernel
theorem dX5_walk_239 : decode cX5_walk 239 = .ok (.lconst 0, 1) := by decide +kernel
theorem dX5_walk_240 : decode cX5_walk 240 = .ok (.lcmp, 1) := by decide +kernel
theorem dX5_walk_241 : decode cX5_walk 241 = .ok (.ifCond .le 137, 3) := by decide +kernel
theorem dX5_walk_244 : decode cX5_walk 244 = .ok (.aload_n 0, 1) := by decide +kernel
theorem dX5_walk_245 : decode cX5_walk 245 = .ok (.iload_n 3, 1) := by decide +kernel
theorem dX5_walk_246 : decode cX5_walk 246 = .ok (.aload_n 0, 1) := by decide +kernel
theorem dX5_walk_247 : decode cX5_walk 247 = .ok (.getfield 36, 3) := by decide +kernel
theorem dX5_walk_250 : decode cX5_walk 250 = .ok (.iload_n 2, 1) := by decide +kernel
theorem dX5_walk_251 : decode cX5_walk 251 = .ok (.laload, 1) := by decide +kernel
theorem dX5_walk_252 : decode cX5_walk 252 = .ok (.lload 4, 2) := by decide +kernel
theorem dX5_walk_254 : decode cX5_walk 254 = .ok (.invokevirtual 100, 3) := by decide +kernel
theorem dX5_walk_257 : decode cX5_walk 257 = .ok (.iconst 0, 1) := by decide +kernel
theorem dX5_walk_258 : decode cX5_walk 258 = .ok (.istore 6, 2) := by decide +kernel
theorem dX5_walk_260 : decode cX5_walk 260 = .ok (.iload 6, 2) := by decide +kernel
theorem dX5_walk_262 : decode cX5_walk 262 = .ok (.aload_n 0, 1) := by decide +kernel
theorem dX5_walk_263 : decode cX5_walk 263 = .ok (.getfield 76, 3) := by decide +kernel
theorem dX5_walk_266 : decode cX5_walk 266 = .ok (.if_icmp .ge 112, 3) := by decide +kernel
theorem dX5_walk_269 : decode cX5_walk 269 = .ok (.aload_n 0, 1) := by decide +kernel
theorem dX5_walk_270 : decode cX5_walk 270 = .ok (.getfield 42, 3) := by decide +kernel
theorem dX5_walk_273 : decode cX5_walk 273 = .ok (.bipush 48, 2) := by decide +kernel
theorem dX5_walk_275 : decode cX5_walk 275 = .ok (.iload_n 3, 1) := by decide +kernel
theorem dX5_walk_276 : decode cX5_walk 276 = .ok (.imul, 1) := by decide +kernel
theorem dX5_walk_277 : decode cX5_walk 277 = .ok (.iload 6, 2) := by decide +kernel
theorem dX5_walk_279 : decode cX5_walk 279 = .ok (.iadd, 1) := by decide +kernel
theorem dX5_walk_280 : decode cX5_walk 280 = .ok (.dup2, 1) := by decide +kernel
theorem dX5_walk_281 : decode cX5_walk 281 = .ok (.laload, 1) := by decide +kernel
theorem dX5_walk_282 : decode cX5_walk 282 = .ok (.aload_n 0, 1) := by decide +kernel
theorem dX5_walk_283 : decode cX5_walk 283 = .ok (.getfield 54, 3) := by decide +kernel
theorem dX5_walk_286 : decode cX5_walk 286 = .ok (.iload 6, 2) := by decide +kernel
theorem dX5_walk_288 : decode cX5_walk 288 = .ok (.laload, 1) := by decide +kernel
theorem dX5_walk_289 : decode cX5_walk 289 = .ok (.lsub, 1) := by decide +kernel
theorem dX5_walk_290 : decode cX5_walk 290 = .ok (.lastore, 1) := by decide +kernel
theorem dX5_walk_291 : decode cX5_walk 291 = .ok (.aload_n 0, 1) := by decide +kernel
theorem dX5_walk_292 : decode cX5_walk 292 = .ok (.getfield 42, 3) := by decide +kernel
theorem dX5_walk_295 : decode cX5_walk 295 = .ok (.bipush 48, 2) := by decide +kernel
theorem dX5_walk_297 : decode cX5_walk 297 = .ok (.aload_n 0, 1) := by decide +kernel
theorem dX5_walk_298 : decode cX5_walk 298 = .ok (.getfield 33, 3) := by decide +kernel
theorem dX5_walk_301 : decode cX5_walk 301 = .ok (.iload_n 2, 1) := by decide +kernel
theorem dX5_walk_302 : decode cX5_walk 302 = .ok (.iaload, 1) := by decide +kernel
theorem dX5_walk_303 : decode cX5_walk 303 = .ok (.imul, 1) := by decide +kernel
theorem dX5_walk_304 : decode cX5_walk 304 = .ok (.iload 6, 2) := by decide +kernel
theorem dX5_walk_306 : decode cX5_walk 306 = .ok (.iadd, 1) := by decide +kernel
theorem dX5_walk_307 : decode cX5_walk 307 = .ok (.dup2, 1) := by decide +kernel
theorem dX5_walk_308 : decode cX5_walk 308 = .ok (.laload, 1) := by decide +kernel
theorem dX5_walk_309 : decode cX5_walk 309 = .ok (.aload_n 0, 1) := by decide +kernel
theorem dX5_walk_310 : decode cX5_walk 310 = .ok (.getfield 54, 3) := by decide +kernel
theorem dX5_walk_313 : decode cX5_walk 313 = .ok (.iload 6, 2) := by decide +kernel
theorem dX5_walk_315 : decode cX5_walk 315 = .ok (.laload, 1) := by decide +kernel
theorem dX5_walk_316 : decode cX5_walk 316 = .ok (.ladd, 1) := by decide +kernel
theorem dX5_walk_317 : decode cX5_walk 317 = .ok (.lastore, 1) := by decide +kernel
theorem dX5_walk_318 : decode cX5_walk 318 = .ok (.aload_n 0, 1) := by decide +kernel
theorem dX5_walk_319 : decode cX5_walk 319 = .ok (.getfield 45, 3) := by decide +kernel
theorem dX5_walk_322 : decode cX5_walk 322 = .ok (.bipush 48, 2) := by decide +kernel
theorem dX5_walk_324 : decode cX5_walk 324 = .ok (.aload_n 0, 1) := by decide +kernel
theorem dX5_walk_325 : decode cX5_walk 325 = .ok (.getfield 33, 3) := by decide +kernel
theorem dX5_walk_328 : decode cX5_walk 328 = .ok (.iload_n 2, 1) := by decide +kernel
theorem dX5_walk_329 : decode cX5_walk 329 = .ok (.iaload, 1) := by decide +kernel
theorem dX5_walk_330 : decode cX5_walk 330 = .ok (.imul, 1) := by decide +kernel
theorem dX5_walk_331 : decode cX5_walk 331 = .ok (.iload 6, 2) := by decide +kernel
theorem dX5_walk_333 : decode cX5_walk 333 = .ok (.iadd, 1) := by decide +kernel
theorem dX5_walk_334 : decode cX5_walk 334 = .ok (.aload_n 0, 1) := by decide +kernel
theorem dX5_walk_335 : decode cX5_walk 335 = .ok (.getfield 45, 3) := by decide +kernel
theorem dX5_walk_338 : decode cX5_walk 338 = .ok (.bipush 48, 2) := by decide +kernel
theorem dX5_walk_340 : decode cX5_walk 340 = .ok (.aload_n 0, 1) := by decide +kernel
theorem dX5_walk_341 : decode cX5_walk 341 = .ok (.getfield 33, 3) := by decide +kernel
theorem dX5_walk_344 : decode cX5_walk 344 = .ok (.iload_n 2, 1) := by decide +kernel
theorem dX5_walk_345 : decode cX5_walk 345 = .ok (.iaload, 1) := by decide +kernel
theorem dX5_walk_346 : decode cX5_walk 346 = .ok (.imul, 1) := by decide +kernel
theorem dX5_walk_347 : decode cX5_walk 347 = .ok (.iload 6, 2) := by decide +kernel
theorem dX5_walk_349 : decode cX5_walk 349 = .ok (.iadd, 1) := by decide +kernel
theorem dX5_walk_350 : decode cX5_walk 350 = .ok (.baload, 1) := by decide +kernel
theorem dX5_walk_351 : decode cX5_walk 351 = .ok (.ifCond .ne 15, 3) := by decide +kernel
theorem dX5_walk_354 : decode cX5_walk 354 = .ok (.aload_n 0, 1) := by decide +kernel
theorem dX5_walk_355 : decode cX5_walk 355 = .ok (.getfield 54, 3) := by decide +kernel
theorem dX5_walk_358 : decode cX5_walk 358 = .ok (.iload 6, 2) := by decide +kernel
theorem dX5_walk_360 : decode cX5_walk 360 = .ok (.laload, 1) := by decide +kernel
theorem dX5_walk_361 : decode cX5_walk 361 = .ok (.lconst 0, 1) := by decide +kernel
theorem dX5_walk_362 : decode cX5_walk 362 = .ok (.lcmp, 1) := by decide +kernel
theorem dX5_walk_363 : decode cX5_walk 363 = .ok (.ifCond .le 7, 3) := by decide +kernel
theorem dX5_walk_366 : decode cX5_walk 366 = .ok (.iconst 1, 1) := by decide +kernel
theorem dX5_walk_367 : decode cX5_walk 367 = .ok (.goto 4, 3) := by decide +kernel
theorem dX5_walk_370 : decode cX5_walk 370 = .ok (.iconst 0, 1) := by decide +kernel
theorem dX5_walk_371 : decode cX5_walk 371 = .ok (.bastore, 1) := by decide +kernel
theorem dX5_walk_372 : decode cX5_walk 372 = .ok (.iinc 6 1, 3) := by decide +kernel
theorem dX5_walk_375 : decode cX5_walk 375 = .ok (.goto (-115), 3) := by decide +kernel
theorem dX5_walk_378 : decode cX5_walk 378 = .ok (.iinc 1 1, 3) := by decide +kernel
theorem dX5_walk_381 : decode cX5_walk 381 = .ok (.goto (-217), 3) := by decide +kernel
theorem dX5_walk_384 : decode cX5_walk 384 = .ok (.iconst 1, 1) := by decide +kernel
theorem dX5_walk_385 : decode cX5_walk 385 = .ok (.ireturn, 1) := by decide +kernel
theorem dX5_sum_0 : decode cX5_sum 0 = .ok (.lconst 0, 1) := by decide +kernel
theorem dX5_sum_1 : decode cX5_sum 1 = .ok (.lstore_n 2, 1) := by decide +kernel
theorem dX5_sum_2 : decode cX5_sum 2 = .ok (.iconst 0, 1) := by decide +kernel
theorem dX5_sum_3 : decode cX5_sum 3 = .ok (.istore 4, 2) := by decide +kernel
theorem dX5_sum_5 : decode cX5_sum 5 = .ok (.iload 4, 2) := by decide +kernel
theorem dX5_sum_7 : decode cX5_sum 7 = .ok (.aload_n 0, 1) := by decide +kernel
theorem dX5_sum_8 : decode cX5_sum 8 = .ok (.getfield 76, 3) := by decide +kernel
theorem dX5_sum_11 : decode cX5_sum 11 = .ok (.if_icmp .ge 24, 3) := by decide +kernel
theorem dX5_sum_14 : decode cX5_sum 14 = .ok (.lload_n 2, 1) := by decide +kernel
theorem dX5_sum_15 : decode cX5_sum 15 = .ok (.aload_n 0, 1) := by decide +kernel
theorem dX5_sum_16 : decode cX5_sum 16 = .ok (.getfield 42, 3) := by decide +kernel
theorem dX5_sum_19 : decode cX5_sum 19 = .ok (.bipush 48, 2) := by decide +kernel
theorem dX5_sum_21 : decode cX5_sum 21 = .ok (.iload_n 1, 1) := by decide +kernel
theorem dX5_sum_22 : decode cX5_sum 22 = .ok (.imul, 1) := by decide +kernel
theorem dX5_sum_23 : decode cX5_sum 23 = .ok (.iload 4, 2) := by decide +kernel
theorem dX5_sum_25 : decode cX5_sum 25 = .ok (.iadd, 1) := by decide +kernel
theorem dX5_sum_26 : decode cX5_sum 26 = .ok (.laload, 1) := by decide +kernel
theorem dX5_sum_27 : decode cX5_sum 27 = .ok (.ladd, 1) := by decide +kernel
theorem dX5_sum_28 : decode cX5_sum 28 = .ok (.lstore_n 2, 1) := by decide +kernel
theorem dX5_sum_29 : decode cX5_sum 29 = .ok (.iinc 4 1, 3) := by decide +kernel
theorem dX5_sum_32 : decode cX5_sum 32 = .ok (.goto (-27), 3) := by decide +kernel
theorem dX5_sum_35 : decode cX5_sum 35 = .ok (.lload_n 2, 1) := by decide +kernel
theorem dX5_sum_36 : decode cX5_sum 36 = .ok (.lreturn, 1) := by decide +kernel
theorem dX5_flow_0 : decode cX5_flow 0 = .ok (.aload_n 0, 1) := by decide +kernel
theorem dX5_flow_1 : decode cX5_flow 1 = .ok (.iconst 0, 1) := by decide +kernel
theorem dX5_flow_2 : decode cX5_flow 2 = .ok (.putfield 72, 3) := by decide +kernel
theorem dX5_flow_5 : decode cX5_flow 5 = .ok (.aload_n 0, 1) := by decide +kernel
theorem dX5_flow_6 : decode cX5_flow 6 = .ok (.iload_n 1, 1) := by decide +kernel
theorem dX5_flow_7 : decode cX5_flow 7 = .ok (.invokevirtual 79, 3) := by decide +kernel
theorem dX5_flow_10 : decode cX5_flow 10 = .ok (.ifCond .eq 21, 3) := by decide +kernel
theorem dX5_flow_13 : decode cX5_flow 13 = .ok (.aload_n 0, 1) := by decide +kernel
theorem dX5_flow_14 : decode cX5_flow 14 = .ok (.iload_n 2, 1) := by decide +kernel
theorem dX5_flow_15 : decode cX5_flow 15 = .ok (.invokevirtual 79, 3) := by decide +kernel
theorem dX5_flow_18 : decode cX5_flow 18 = .ok (.ifCond .eq 13, 3) := by decide +kernel
theorem dX5_flow_21 : decode cX5_flow 21 = .ok (.aload_n 0, 1) := by decide +kernel
theorem dX5_flow_22 : decode cX5_flow 22 = .ok (.getfield 93, 3) := by decide +kernel
theorem dX5_flow_25 : decode cX5_flow 25 = .ok (.sipush 400, 3) := by decide +kernel
theorem dX5_flow_28 : decode cX5_flow 28 = .ok (.if_icmp .ne 11, 3) := by decide +kernel
theorem dX5_flow_31 : decode cX5_flow 31 = .ok (.aload_n 0, 1) := by decide +kernel
theorem dX5_flow_32 : decode cX5_flow 32 = .ok (.iconst 1, 1) := by decide +kernel
theorem dX5_flow_33 : decode cX5_flow 33 = .ok (.putfield 72, 3) := by decide +kernel
theorem dX5_flow_36 : decode cX5_flow 36 = .ok (.goto 113, 3) := by decide +kernel
theorem dX5_flow_39 : decode cX5_flow 39 = .ok (.aload_n 0, 1) := by decide +kernel
theorem dX5_flow_40 : decode cX5_flow 40 = .ok (.getfield 9, 3) := by decide +kernel
theorem dX5_flow_43 : decode cX5_flow 43 = .ok (.iload_n 2, 1) := by decide +kernel
theorem dX5_flow_44 : decode cX5_flow 44 = .ok (.iaload, 1) := by decide +kernel
theorem dX5_flow_45 : decode cX5_flow 45 = .ok (.iconst (-1), 1) := by decide +kernel
theorem dX5_flow_46 : decode cX5_flow 46 = .ok (.if_icmp .eq 47, 3) := by decide +kernel
theorem dX5_flow_49 : decode cX5_flow 49 = .ok (.aload_n 0, 1) := by decide +kernel
theorem dX5_flow_50 : decode cX5_flow 50 = .ok (.getfield 9, 3) := by decide +kernel
theorem dX5_flow_53 : decode cX5_flow 53 = .ok (.iload_n 1, 1) := by decide +kernel
theorem dX5_flow_54 : decode cX5_flow 54 = .ok (.iaload, 1) := by decide +kernel
theorem dX5_flow_55 : decode cX5_flow 55 = .ok (.ifCond .eq 38, 3) := by decide +kernel
theorem dX5_flow_58 : decode cX5_flow 58 = .ok (.iload_n 1, 1) := by decide +kernel
theorem dX5_flow_59 : decode cX5_flow 59 = .ok (.iload_n 2, 1) := by decide +kernel
theorem dX5_flow_60 : decode cX5_flow 60 = .ok (.if_icmp .eq 33, 3) := by decide +kernel
theorem dX5_flow_63 : decode cX5_flow 63 = .ok (.lload_n 3, 1) := by decide +kernel
theorem dX5_flow_64 : decode cX5_flow 64 = .ok (.lconst 1, 1) := by decide +kernel
theorem dX5_flow_65 : decode cX5_flow 65 = .ok (.lcmp, 1) := by decide +kernel
theorem dX5_flow_66 : decode cX5_flow 66 = .ok (.ifCond .lt 27, 3) := by decide +kernel
theorem dX5_flow_69 : decode cX5_flow 69 = .ok (.lload_n 3, 1) := by decide +kernel
theorem dX5_flow_70 : decode cX5_flow 70 = .ok (.ldc2_w 83, 3) := by decide +kernel
theorem dX5_flow_73 : decode cX5_flow 73 = .ok (.lcmp, 1) := by decide +kernel
theorem dX5_flow_74 : decode cX5_flow 74 = .ok (.ifCond .gt 19, 3) := by decide +kernel
theorem dX5_flow_77 : decode cX5_flow 77 = .ok (.lload 5, 2) := by decide +kernel
theorem dX5_flow_79 : decode cX5_flow 79 = .ok (.lconst 0, 1) := by decide +kernel
theorem dX5_flow_80 : decode cX5_flow 80 = .ok (.lcmp, 1) := by decide +kernel
theorem dX5_flow_81 : decode cX5_flow 81 = .ok (.ifCond .lt 12, 3) := by decide +kernel
theorem dX5_flow_84 : decode cX5_flow 84 = .ok (.lload 5, 2) := by decide +kernel
theorem dX5_flow_86 : decode cX5_flow 86 = .ok (.ldc2_w 85, 3) := by decide +kernel
theorem dX5_flow_89 : decode cX5_flow 89 = .ok (.lcmp, 1) := by decide +kernel
theorem dX5_flow_90 : decode cX5_flow 90 = .ok (.ifCond .le 11, 3) := by decide +kernel
theorem dX5_flow_93 : decode cX5_flow 93 = .ok (.aload_n 0, 1) := by decide +kernel
theorem dX5_flow_94 : decode cX5_flow 94 = .ok (.iconst 2, 1) := by decide +kernel
theorem dX5_flow_95 : decode cX5_flow 95 = .ok (.putfield 72, 3) := by decide +kernel
theorem dX5_flow_98 : decode cX5_flow 98 = .ok (.goto 51, 3) := by decide +kernel
theorem dX5_flow_101 : decode cX5_flow 101 = .ok (.aload_n 0, 1) := by decide +kernel
theorem dX5_flow_102 : decode cX5_flow 102 = .ok (.getfield 26, 3) := by decide +kernel
theorem dX5_flow_105 : decode cX5_flow 105 = .ok (.iload_n 1, 1) := by decide +kernel
theorem dX5_flow_106 : decode cX5_flow 106 = .ok (.baload, 1) := by decide +kernel
theorem dX5_flow_107 : decode cX5_flow 107 = .ok (.ifCond .eq 11, 3) := by decide +kernel
theorem dX5_flow_110 : decode cX5_flow 110 = .ok (.aload_n 0, 1) := by decide +kernel
theorem dX5_flow_111 : decode cX5_flow 111 = .ok (.iconst 3, 1) := by decide +kernel
theorem dX5_flow_112 : decode cX5_flow 112 = .ok (.putfield 72, 3) := by decide +kernel
theorem dX5_flow_115 : decode cX5_flow 115 = .ok (.goto 34, 3) := by decide +kernel
theorem dX5_flow_118 : decode cX5_flow 118 = .ok (.aload_n 0, 1) := by decide +kernel
theorem dX5_flow_119 : decode cX5_flow 119 = .ok (.iload_n 1, 1) := by decide +kernel
theorem dX5_flow_120 : decode cX5_flow 120 = .ok (.iload_n 2, 1) := by decide +kernel
theorem dX5_flow_121 : decode cX5_flow 121 = .ok (.lload_n 3, 1) := by decide +kernel
theorem dX5_flow_122 : decode cX5_flow 122 = .ok (.lload 5, 2) := by decide +kernel
theorem dX5_flow_124 : decode cX5_flow 124 = .ok (.invokevirtual 104, 3) := by decide +kernel
theorem dX5_flow_127 : decode cX5_flow 127 = .ok (.aload_n 0, 1) := by decide +kernel
theorem dX5_flow_128 : decode cX5_flow 128 = .ok (.invokevirtual 108, 3) := by decide +kernel
theorem dX5_flow_131 : decode cX5_flow 131 = .ok (.ifCond .ne 18, 3) := by decide +kernel
theorem dX5_flow_134 : decode cX5_flow 134 = .ok (.aload_n 0, 1) := by decide +kernel
theorem dX5_flow_135 : decode cX5_flow 135 = .ok (.dup, 1) := by decide +kernel
theorem dX5_flow_136 : decode cX5_flow 136 = .ok (.getfield 93, 3) := by decide +kernel
theorem dX5_flow_139 : decode cX5_flow 139 = .ok (.iconst 1, 1) := by decide +kernel
theorem dX5_flow_140 : decode cX5_flow 140 = .ok (.isub, 1) := by decide +kernel
theorem dX5_flow_141 : decode cX5_flow 141 = .ok (.putfield 93, 3) := by decide +kernel
theorem dX5_flow_144 : decode cX5_flow 144 = .ok (.aload_n 0, 1) := by decide +kernel
theorem dX5_flow_145 : decode cX5_flow 145 = .ok (.iconst 3, 1) := by decide +kernel
theorem dX5_flow_146 : decode cX5_flow 146 = .ok (.putfield 72, 3) := by decide +kernel
theorem dX5_flow_149 : decode cX5_flow 149 = .ok (.return_, 1) := by decide +kernel
theorem dX5_put_0 : decode cX5_put 0 = .ok (.aload_n 0, 1) := by decide +kernel
theorem dX5_put_1 : decode cX5_put 1 = .ok (.getfield 30, 3) := by decide +kernel
theorem dX5_put_4 : decode cX5_put 4 = .ok (.aload_n 0, 1) := by decide +kernel
theorem dX5_put_5 : decode cX5_put 5 = .ok (.getfield 93, 3) := by decide +kernel
theorem dX5_put_8 : decode cX5_put 8 = .ok (.iload_n 1, 1) := by decide +kernel
theorem dX5_put_9 : decode cX5_put 9 = .ok (.iastore, 1) := by decide +kernel
theorem dX5_put_10 : decode cX5_put 10 = .ok (.aload_n 0, 1) := by decide +kernel
theorem dX5_put_11 : decode cX5_put 11 = .ok (.getfield 33, 3) := by decide +kernel
theorem dX5_put_14 : decode cX5_put 14 = .ok (.aload_n 0, 1) := by decide +kernel
theorem dX5_put_15 : decode cX5_put 15 = .ok (.getfield 93, 3) := by decide +kernel
theorem dX5_put_18 : decode cX5_put 18 = .ok (.iload_n 2, 1) := by decide +kernel
theorem dX5_put_19 : decode cX5_put 19 = .ok (.iastore, 1) := by decide +kernel
theorem dX5_put_20 : decode cX5_put 20 = .ok (.aload_n 0, 1) := by decide +kernel
theorem dX5_put_21 : decode cX5_put 21 = .ok (.getfield 36, 3) := by decide +kernel
theorem dX5_put_24 : decode cX5_put 24 = .ok (.aload_n 0, 1) := by decide +kernel
theorem dX5_put_25 : decode cX5_put 25 = .ok (.getfield 93, 3) := by decide +kernel
theorem dX5_put_28 : decode cX5_put 28 = .ok (.lload_n 3, 1) := by decide +kernel
theorem dX5_put_29 : decode cX5_put 29 = .ok (.lastore, 1) := by decide +kernel
theorem dX5_put_30 : decode cX5_put 30 = .ok (.aload_n 0, 1) := by decide +kernel
theorem dX5_put_31 : decode cX5_put 31 = .ok (.getfield 39, 3) := by decide +kernel
theorem dX5_put_34 : decode cX5_put 34 = .ok (.aload_n 0, 1) := by decide +kernel
theorem dX5_put_35 : decode cX5_put 35 = .ok (.getfield 93, 3) := by decide +kernel
theorem dX5_put_38 : decode cX5_put 38 = .ok (.lload 5, 2) := by decide +kernel
theorem dX5_put_40 : decode cX5_put 40 = .ok (.lastore, 1) := by decide +kernel
theorem dX5_put_41 : decode cX5_put 41 = .ok (.aload_n 0, 1) := by decide +kernel
theorem dX5_put_42 : decode cX5_put 42 = .ok (.dup, 1) := by decide +kernel
theorem dX5_put_43 : decode cX5_put 43 = .ok (.getfield 93, 3) := by decide +kernel
theorem dX5_put_46 : decode cX5_put 46 = .ok (.iconst 1, 1) := by decide +kernel
theorem dX5_put_47 : decode cX5_put 47 = .ok (.iadd, 1) := by decide +kernel
theorem dX5_put_48 : decode cX5_put 48 = .ok (.putfield 93, 3) := by decide +kernel
theorem dX5_put_51 : decode cX5_put 51 = .ok (.return_, 1) := by decide +kernel
theorem dX5_left_0 : decode cX5_left 0 = .ok (.aload_n 0, 1) := by decide +kernel
theorem dX5_left_1 : decode cX5_left 1 = .ok (.iconst 0, 1) := by decide +kernel
theorem dX5_left_2 : decode cX5_left 2 = .ok (.putfield 72, 3) := by decide +kernel
theorem dX5_left_5 : decode cX5_left 5 = .ok (.aload_n 0, 1) := by decide +kernel
theorem dX5_left_6 : decode cX5_left 6 = .ok (.iload_n 1, 1) := by decide +kernel
theorem dX5_left_7 : decode cX5_left 7 = .ok (.invokevirtual 79, 3) := by decide +kernel
theorem dX5_left_10 : decode cX5_left 10 = .ok (.ifCond .ne 7, 3) := by decide +kernel
theorem dX5_left_13 : decode cX5_left 13 = .ok (.ldc2_w 91, 3) := by decide +kernel
theorem dX5_left_16 : decode cX5_left 16 = .ok (.lreturn, 1) := by decide +kernel
theorem dX5_left_17 : decode cX5_left 17 = .ok (.aload_n 0, 1) := by decide +kernel
theorem dX5_left_18 : decode cX5_left 18 = .ok (.invokevirtual 108, 3) := by decide +kernel
theorem dX5_left_21 : decode cX5_left 21 = .ok (.istore_n 2, 1) := by decide +kernel
theorem dX5_left_22 : decode cX5_left 22 = .ok (.aload_n 0, 1) := by decide +kernel
theorem dX5_left_23 : decode cX5_left 23 = .ok (.iload_n 1, 1) := by decide +kernel
theorem dX5_left_24 : decode cX5_left 24 = .ok (.invokevirtual 96, 3) := by decide +kernel
theorem dX5_left_27 : decode cX5_left 27 = .ok (.lreturn, 1) := by decide +kernel
theorem dX5_share_0 : decode cX5_share 0 = .ok (.aload_n 0, 1) := by decide +kernel
theorem dX5_share_1 : decode cX5_share 1 = .ok (.iconst 0, 1) := by decide +kernel
theorem dX5_share_2 : decode cX5_share 2 = .ok (.putfield 72, 3) := by decide +kernel
theorem dX5_share_5 : decode cX5_share 5 = .ok (.aload_n 0, 1) := by decide +kernel
theorem dX5_share_6 : decode cX5_share 6 = .ok (.iload_n 1, 1) := by decide +kernel
theorem dX5_share_7 : decode cX5_share 7 = .ok (.invokevirtual 79, 3) := by decide +kernel
theorem dX5_share_10 : decode cX5_share 10 = .ok (.ifCond .eq 20, 3) := by decide +kernel
theorem dX5_share_13 : decode cX5_share 13 = .ok (.aload_n 0, 1) := by decide +kernel
theorem dX5_share_14 : decode cX5_share 14 = .ok (.iload_n 2, 1) := by decide +kernel
theorem dX5_share_15 : decode cX5_share 15 = .ok (.invokevirtual 112, 3) := by decide +kernel
theorem dX5_share_18 : decode cX5_share 18 = .ok (.ifCond .eq 12, 3) := by decide +kernel
theorem dX5_share_21 : decode cX5_share 21 = .ok (.iload_n 3, 1) := by decide +kernel
theorem dX5_share_22 : decode cX5_share 22 = .ok (.ifCond .lt 8, 3) := by decide +kernel
theorem dX5_share_25 : decode cX5_share 25 = .ok (.iload_n 3, 1) := by decide +kernel
theorem dX5_share_26 : decode cX5_share 26 = .ok (.iconst 1, 1) := by decide +kernel
theorem dX5_share_27 : decode cX5_share 27 = .ok (.if_icmp .le 7, 3) := by decide +kernel
theorem dX5_share_30 : decode cX5_share 30 = .ok (.ldc2_w 91, 3) := by decide +kernel
theorem dX5_share_33 : decode cX5_share 33 = .ok (.lreturn, 1) := by decide +kernel
theorem dX5_share_34 : decode cX5_share 34 = .ok (.aload_n 0, 1) := by decide +kernel
theorem dX5_share_35 : decode cX5_share 35 = .ok (.invokevirtual 108, 3) := by decide +kernel
theorem dX5_share_38 : decode cX5_share 38 = .ok (.istore 4, 2) := by decide +kernel
theorem dX5_share_40 : decode cX5_share 40 = .ok (.aload_n 0, 1) := by decide +kernel
theorem dX5_share_41 : decode cX5_share 41 = .ok (.iload_n 1, 1) := by decide +kernel
theorem dX5_share_42 : decode cX5_share 42 = .ok (.invokevirtual 96, 3) := by decide +kernel
theorem dX5_share_45 : decode cX5_share 45 = .ok (.lstore 5, 2) := by decide +kernel
theorem dX5_share_47 : decode cX5_share 47 = .ok (.aload_n 0, 1) := by decide +kernel
theorem dX5_share_48 : decode cX5_share 48 = .ok (.getfield 42, 3) := by decide +kernel
theorem dX5_share_51 : decode cX5_share 51 = .ok (.bipush 48, 2) := by decide +kernel
theorem dX5_share_53 : decode cX5_share 53 = .ok (.iload_n 1, 1) := by decide +kernel
theorem dX5_share_54 : decode cX5_share 54 = .ok (.imul, 1) := by decide +kernel
theorem dX5_share_55 : decode cX5_share 55 = .ok (.iload_n 2, 1) := by decide +kernel
theorem dX5_share_56 : decode cX5_share 56 = .ok (.iadd, 1) := by decide +kernel
theorem dX5_share_57 : decode cX5_share 57 = .ok (.laload, 1) := by decide +kernel
theorem dX5_share_58 : decode cX5_share 58 = .ok (.lstore 7, 2) := by decide +kernel
theorem dX5_share_60 : decode cX5_share 60 = .ok (.lload 5, 2) := by decide +kernel
theorem dX5_share_62 : decode cX5_share 62 = .ok (.lconst 0, 1) := by decide +kernel
theorem dX5_share_63 : decode cX5_share 63 = .ok (.lcmp, 1) := by decide +kernel
theorem dX5_share_64 : decode cX5_share 64 = .ok (.ifCond .ne 6, 3) := by decide +kernel
theorem dX5_share_67 : decode cX5_share 67 = .ok (.iload_n 3, 1) := by decide +kernel
theorem dX5_share_68 : decode cX5_share 68 = .ok (.i2l, 1) := by decide +kernel
theorem dX5_share_69 : decode cX5_share 69 = .ok (.lreturn, 1) := by decide +kernel
theorem dX5_share_70 : decode cX5_share 70 = .ok (.lload 5, 2) := by decide +kernel
theorem dX5_share_72 : decode cX5_share 72 = .ok (.lstore 9, 2) := by decide +kernel
theorem dX5_share_74 : decode cX5_share 74 = .ok (.lload 7, 2) := by decide +kernel
theorem dX5_share_76 : decode cX5_share 76 = .ok (.lstore 11, 2) := by decide +kernel
theorem dX5_share_78 : decode cX5_share 78 = .ok (.lload 11, 2) := by decide +kernel
theorem dX5_share_80 : decode cX5_share 80 = .ok (.lconst 0, 1) := by decide +kernel
theorem dX5_share_81 : decode cX5_share 81 = .ok (.lcmp, 1) := by decide +kernel
theorem dX5_share_82 : decode cX5_share 82 = .ok (.ifCond .le 21, 3) := by decide +kernel
theorem dX5_share_85 : decode cX5_share 85 = .ok (.lload 9, 2) := by decide +kernel
theorem dX5_share_87 : decode cX5_share 87 = .ok (.lload 11, 2) := by decide +kernel
theorem dX5_share_89 : decode cX5_share 89 = .ok (.lrem, 1) := by decide +kernel
theorem dX5_share_90 : decode cX5_share 90 = .ok (.lstore 13, 2) := by decide +kernel
theorem dX5_share_92 : decode cX5_share 92 = .ok (.lload 11, 2) := by decide +kernel
theorem dX5_share_94 : decode cX5_share 94 = .ok (.lstore 9, 2) := by decide +kernel
theorem dX5_share_96 : decode cX5_share 96 = .ok (.lload 13, 2) := by decide +kernel
theorem dX5_share_98 : decode cX5_share 98 = .ok (.lstore 11, 2) := by decide +kernel
theorem dX5_share_100 : decode cX5_share 100 = .ok (.goto (-22), 3) := by decide +kernel
theorem dX5_share_103 : decode cX5_share 103 = .ok (.iload_n 3, 1) := by decide +kernel
theorem dX5_share_104 : decode cX5_share 104 = .ok (.ifCond .ne 11, 3) := by decide +kernel
theorem dX5_share_107 : decode cX5_share 107 = .ok (.lload 7, 2) := by decide +kernel
theorem dX5_share_109 : decode cX5_share 109 = .ok (.lload 9, 2) := by decide +kernel
theorem dX5_share_111 : decode cX5_share 111 = .ok (.ldiv, 1) := by decide +kernel
theorem dX5_share_112 : decode cX5_share 112 = .ok (.goto 8, 3) := by decide +kernel
theorem dX5_share_115 : decode cX5_share 115 = .ok (.lload 5, 2) := by decide +kernel
theorem dX5_share_117 : decode cX5_share 117 = .ok (.lload 9, 2) := by decide +kernel
theorem dX5_share_119 : decode cX5_share 119 = .ok (.ldiv, 1) := by decide +kernel
theorem dX5_share_120 : decode cX5_share 120 = .ok (.lreturn, 1) := by decide +kernel
theorem dX5_back_0 : decode cX5_back 0 = .ok (.aload_n 0, 1) := by decide +kernel
theorem dX5_back_1 : decode cX5_back 1 = .ok (.iconst 0, 1) := by decide +kernel
theorem dX5_back_2 : decode cX5_back 2 = .ok (.putfield 72, 3) := by decide +kernel
theorem dX5_back_5 : decode cX5_back 5 = .ok (.aload_n 0, 1) := by decide +kernel
theorem dX5_back_6 : decode cX5_back 6 = .ok (.iload_n 1, 1) := by decide +kernel
theorem dX5_back_7 : decode cX5_back 7 = .ok (.invokevirtual 79, 3) := by decide +kernel
theorem dX5_back_10 : decode cX5_back 10 = .ok (.ifCond .ne 5, 3) := by decide +kernel
theorem dX5_back_13 : decode cX5_back 13 = .ok (.iconst (-1), 1) := by decide +kernel
theorem dX5_back_14 : decode cX5_back 14 = .ok (.ireturn, 1) := by decide +kernel
theorem dX5_back_15 : decode cX5_back 15 = .ok (.aload_n 0, 1) := by decide +kernel
theorem dX5_back_16 : decode cX5_back 16 = .ok (.invokevirtual 108, 3) := by decide +kernel
theorem dX5_back_19 : decode cX5_back 19 = .ok (.istore_n 3, 1) := by decide +kernel
theorem dX5_back_20 : decode cX5_back 20 = .ok (.iload_n 2, 1) := by decide +kernel
theorem dX5_back_21 : decode cX5_back 21 = .ok (.istore 4, 2) := by decide +kernel
theorem dX5_back_23 : decode cX5_back 23 = .ok (.iconst 0, 1) := by decide +kernel
theorem dX5_back_24 : decode cX5_back 24 = .ok (.istore 5, 2) := by decide +kernel
theorem dX5_back_26 : decode cX5_back 26 = .ok (.iload 5, 2) := by decide +kernel
theorem dX5_back_28 : decode cX5_back 28 = .ok (.aload_n 0, 1) := by decide +kernel
theorem dX5_back_29 : decode cX5_back 29 = .ok (.getfield 76, 3) := by decide +kernel
theorem dX5_back_32 : decode cX5_back 32 = .ok (.if_icmp .ge 40, 3) := by decide +kernel
theorem dX5_back_35 : decode cX5_back 35 = .ok (.iload 4, 2) := by decide +kernel
theorem dX5_back_37 : decode cX5_back 37 = .ok (.ifCond .lt 35, 3) := by decide +kernel
theorem dX5_back_40 : decode cX5_back 40 = .ok (.aload_n 0, 1) := by decide +kernel
theorem dX5_back_41 : decode cX5_back 41 = .ok (.getfield 45, 3) := by decide +kernel
theorem dX5_back_44 : decode cX5_back 44 = .ok (.bipush 48, 2) := by decide +kernel
theorem dX5_back_46 : decode cX5_back 46 = .ok (.iload_n 1, 1) := by decide +kernel
theorem dX5_back_47 : decode cX5_back 47 = .ok (.imul, 1) := by decide +kernel
theorem dX5_back_48 : decode cX5_back 48 = .ok (.iload 5, 2) := by decide +kernel
theorem dX5_back_50 : decode cX5_back 50 = .ok (.iadd, 1) := by decide +kernel
theorem dX5_back_51 : decode cX5_back 51 = .ok (.baload, 1) := by decide +kernel
theorem dX5_back_52 : decode cX5_back 52 = .ok (.ifCond .eq 14, 3) := by decide +kernel
theorem dX5_back_55 : decode cX5_back 55 = .ok (.iload 4, 2) := by decide +kernel
theorem dX5_back_57 : decode cX5_back 57 = .ok (.ifCond .ne 6, 3) := by decide +kernel
theorem dX5_back_60 : decode cX5_back 60 = .ok (.iload 5, 2) := by decide +kernel
theorem dX5_back_62 : decode cX5_back 62 = .ok (.ireturn, 1) := by decide +kernel
theorem dX5_back_63 : decode cX5_back 63 = .ok (.iinc 4 (-1), 3) := by decide +kernel
theorem dX5_back_66 : decode cX5_back 66 = .ok (.iinc 5 1, 3) := by decide +kernel
theorem dX5_back_69 : decode cX5_back 69 = .ok (.goto (-43), 3) := by decide +kernel
theorem dX5_back_72 : decode cX5_back 72 = .ok (.iconst (-1), 1) := by decide +kernel
theorem dX5_back_73 : decode cX5_back 73 = .ok (.ireturn, 1) := by decide +kernel
theorem dX5_forward_0 : decode cX5_forward 0 = .ok (.aload_n 0, 1) := by decide +kernel
theorem dX5_forward_1 : decode cX5_forward 1 = .ok (.iconst 0, 1) := by decide +kernel
theorem dX5_forward_2 : decode cX5_forward 2 = .ok (.putfield 72, 3) := by decide +kernel
theorem dX5_forward_5 : decode cX5_forward 5 = .ok (.aload_n 0, 1) := by decide +kernel
theorem dX5_forward_6 : decode cX5_forward 6 = .ok (.iload_n 1, 1) := by decide +kernel
theorem dX5_forward_7 : decode cX5_forward 7 = .ok (.invokevirtual 112, 3) := by decide +kernel
theorem dX5_forward_10 : decode cX5_forward 10 = .ok (.ifCond .ne 5, 3) := by decide +kernel
theorem dX5_forward_13 : decode cX5_forward 13 = .ok (.iconst (-1), 1) := by decide +kernel
theorem dX5_forward_14 : decode cX5_forward 14 = .ok (.ireturn, 1) := by decide +kernel
theorem dX5_forward_15 : decode cX5_forward 15 = .ok (.aload_n 0, 1) := by decide +kernel
theorem dX5_forward_16 : decode cX5_forward 16 = .ok (.invokevirtual 108, 3) := by decide +kernel
theorem dX5_forward_19 : decode cX5_forward 19 = .ok (.istore_n 3, 1) := by decide +kernel
theorem dX5_forward_20 : decode cX5_forward 20 = .ok (.iload_n 2, 1) := by decide +kernel
theorem dX5_forward_21 : decode cX5_forward 21 = .ok (.istore 4, 2) := by decide +kernel
theorem dX5_forward_23 : decode cX5_forward 23 = .ok (.iconst 0, 1) := by decide +kernel
theorem dX5_forward_24 : decode cX5_forward 24 = .ok (.istore 5, 2) := by decide +kernel
theorem dX5_forward_26 : decode cX5_forward 26 = .ok (.iload 5, 2) := by decide +kernel
theorem dX5_forward_28 : decode cX5_forward 28 = .ok (.aload_n 0, 1) := by decide +kernel
theorem dX5_forward_29 : decode cX5_forward 29 = .ok (.getfield 76, 3) := by decide +kernel
theorem dX5_forward_32 : decode cX5_forward 32 = .ok (.if_icmp .ge 51, 3) := by decide +kernel
theorem dX5_forward_35 : decode cX5_forward 35 = .ok (.iload 4, 2) := by decide +kernel
theorem dX5_forward_37 : decode cX5_forward 37 = .ok (.ifCond .lt 46, 3) := by decide +kernel
theorem dX5_forward_40 : decode cX5_forward 40 = .ok (.aload_n 0, 1) := by decide +kernel
theorem dX5_forward_41 : decode cX5_forward 41 = .ok (.getfield 9, 3) := by decide +kernel
theorem dX5_forward_44 : decode cX5_forward 44 = .ok (.iload 5, 2) := by decide +kernel
theorem dX5_forward_46 : decode cX5_forward 46 = .ok (.iaload, 1) := by decide +kernel
theorem dX5_forward_47 : decode cX5_forward 47 = .ok (.iconst (-1), 1) := by decide +kernel
theorem dX5_forward_48 : decode cX5_forward 48 = .ok (.if_icmp .eq 29, 3) := by decide +kernel
theorem dX5_forward_51 : decode cX5_forward 51 = .ok (.aload_n 0, 1) := by decide +kernel
theorem dX5_forward_52 : decode cX5_forward 52 = .ok (.getfield 45, 3) := by decide +kernel
theorem dX5_forward_55 : decode cX5_forward 55 = .ok (.bipush 48, 2) := by decide +kernel
theorem dX5_forward_57 : decode cX5_forward 57 = .ok (.iload 5, 2) := by decide +kernel
theorem dX5_forward_59 : decode cX5_forward 59 = .ok (.imul, 1) := by decide +kernel
theorem dX5_forward_60 : decode cX5_forward 60 = .ok (.iload_n 1, 1) := by decide +kernel
theorem dX5_forward_61 : decode cX5_forward 61 = .ok (.iadd, 1) := by decide +kernel
theorem dX5_forward_62 : decode cX5_forward 62 = .ok (.baload, 1) := by decide +kernel
theorem dX5_forward_63 : decode cX5_forward 63 = .ok (.ifCond .eq 14, 3) := by decide +kernel
theorem dX5_forward_66 : decode cX5_forward 66 = .ok (.iload 4, 2) := by decide +kernel
theorem dX5_forward_68 : decode cX5_forward 68 = .ok (.ifCond .ne 6, 3) := by decide +kernel
theorem dX5_forward_71 : decode cX5_forward 71 = .ok (.iload 5, 2) := by decide +kernel
theorem dX5_forward_73 : decode cX5_forward 73 = .ok (.ireturn, 1) := by decide +kernel
theorem dX5_forward_74 : decode cX5_forward 74 = .ok (.iinc 4 (-1), 3) := by decide +kernel
theorem dX5_forward_77 : decode cX5_forward 77 = .ok (.iinc 5 1, 3) := by decide +kernel
theorem dX5_forward_80 : decode cX5_forward 80 = .ok (.goto (-54), 3) := by decide +kernel
theorem dX5_forward_83 : decode cX5_forward 83 = .ok (.iconst (-1), 1) := by decide +kernel
theorem dX5_forward_84 : decode cX5_forward 84 = .ok (.ireturn, 1) := by decide +kernel
theorem dX5_place_0 : decode cX5_place 0 = .ok (.aload_n 0, 1) := by decide +kernel
theorem dX5_place_1 : decode cX5_place 1 = .ok (.iconst 0, 1) := by decide +kernel
theorem dX5_place_2 : decode cX5_place 2 = .ok (.putfield 72, 3) := by decide +kernel
theorem dX5_place_5 : decode cX5_place 5 = .ok (.aload_n 0, 1) := by decide +kernel
theorem dX5_place_6 : decode cX5_place 6 = .ok (.iload_n 1, 1) := by decide +kernel
theorem dX5_place_7 : decode cX5_place 7 = .ok (.invokevirtual 79, 3) := by decide +kernel
theorem dX5_place_10 : decode cX5_place 10 = .ok (.ifCond .eq 35, 3) := by decide +kernel
theorem dX5_place_13 : decode cX5_place 13 = .ok (.aload_n 0, 1) := by decide +kernel
theorem dX5_place_14 : decode cX5_place 14 = .ok (.getfield 9, 3) := by decide +kernel
theorem dX5_place_17 : decode cX5_place 17 = .ok (.iload_n 1, 1) := by decide +kernel
theorem dX5_place_18 : decode cX5_place 18 = .ok (.iaload, 1) := by decide +kernel
theorem dX5_place_19 : decode cX5_place 19 = .ok (.iconst (-1), 1) := by decide +kernel
theorem dX5_place_20 : decode cX5_place 20 = .ok (.if_icmp .eq 25, 3) := by decide +kernel
theorem dX5_place_23 : decode cX5_place 23 = .ok (.iload_n 2, 1) := by decide +kernel
theorem dX5_place_24 : decode cX5_place 24 = .ok (.ifCond .lt 21, 3) := by decide +kernel
theorem dX5_place_27 : decode cX5_place 27 = .ok (.iload_n 2, 1) := by decide +kernel
theorem dX5_place_28 : decode cX5_place 28 = .ok (.sipush 999, 3) := by decide +kernel
theorem dX5_place_31 : decode cX5_place 31 = .ok (.if_icmp .gt 14, 3) := by decide +kernel
theorem dX5_place_34 : decode cX5_place 34 = .ok (.iload_n 3, 1) := by decide +kernel
theorem dX5_place_35 : decode cX5_place 35 = .ok (.ifCond .lt 10, 3) := by decide +kernel
theorem dX5_place_38 : decode cX5_place 38 = .ok (.iload_n 3, 1) := by decide +kernel
theorem dX5_place_39 : decode cX5_place 39 = .ok (.sipush 999, 3) := by decide +kernel
theorem dX5_place_42 : decode cX5_place 42 = .ok (.if_icmp .le 5, 3) := by decide +kernel
theorem dX5_place_45 : decode cX5_place 45 = .ok (.iconst 0, 1) := by decide +kernel
theorem dX5_place_46 : decode cX5_place 46 = .ok (.ireturn, 1) := by decide +kernel
theorem dX5_place_47 : decode cX5_place 47 = .ok (.aload_n 0, 1) := by decide +kernel
theorem dX5_place_48 : decode cX5_place 48 = .ok (.getfield 20, 3) := by decide +kernel
theorem dX5_place_51 : decode cX5_place 51 = .ok (.iload_n 1, 1) := by decide +kernel
theorem dX5_place_52 : decode cX5_place 52 = .ok (.iload_n 2, 1) := by decide +kernel
theorem dX5_place_53 : decode cX5_place 53 = .ok (.iastore, 1) := by decide +kernel
theorem dX5_place_54 : decode cX5_place 54 = .ok (.aload_n 0, 1) := by decide +kernel
theorem dX5_place_55 : decode cX5_place 55 = .ok (.getfield 23, 3) := by decide +kernel
theorem dX5_place_58 : decode cX5_place 58 = .ok (.iload_n 1, 1) := by decide +kernel
theorem dX5_place_59 : decode cX5_place 59 = .ok (.iload_n 3, 1) := by decide +kernel
theorem dX5_place_60 : decode cX5_place 60 = .ok (.iastore, 1) := by decide +kernel
theorem dX5_place_61 : decode cX5_place 61 = .ok (.iconst 1, 1) := by decide +kernel
theorem dX5_place_62 : decode cX5_place 62 = .ok (.ireturn, 1) := by decide +kernel
theorem dX5_recall_0 : decode cX5_recall 0 = .ok (.aload_n 0, 1) := by decide +kernel
theorem dX5_recall_1 : decode cX5_recall 1 = .ok (.iconst 0, 1) := by decide +kernel
theorem dX5_recall_2 : decode cX5_recall 2 = .ok (.putfield 72, 3) := by decide +kernel
theorem dX5_recall_5 : decode cX5_recall 5 = .ok (.aload_n 0, 1) := by decide +kernel
theorem dX5_recall_6 : decode cX5_recall 6 = .ok (.iload_n 1, 1) := by decide +kernel
theorem dX5_recall_7 : decode cX5_recall 7 = .ok (.invokevirtual 112, 3) := by decide +kernel
theorem dX5_recall_10 : decode cX5_recall 10 = .ok (.ifCond .ne 5, 3) := by decide +kernel
theorem dX5_recall_13 : decode cX5_recall 13 = .ok (.iconst (-1), 1) := by decide +kernel
theorem dX5_recall_14 : decode cX5_recall 14 = .ok (.ireturn, 1) := by decide +kernel
theorem dX5_recall_15 : decode cX5_recall 15 = .ok (.aload_n 0, 1) := by decide +kernel
theorem dX5_recall_16 : decode cX5_recall 16 = .ok (.invokevirtual 108, 3) := by decide +kernel
theorem dX5_recall_19 : decode cX5_recall 19 = .ok (.istore_n 2, 1) := by decide +kernel
theorem dX5_recall_20 : decode cX5_recall 20 = .ok (.aload_n 0, 1) := by decide +kernel
theorem dX5_recall_21 : decode cX5_recall 21 = .ok (.iconst 0, 1) := by decide +kernel
theorem dX5_recall_22 : decode cX5_recall 22 = .ok (.putfield 115, 3) := by decide +kernel
theorem dX5_recall_25 : decode cX5_recall 25 = .ok (.iconst (-1), 1) := by decide +kernel
theorem dX5_recall_26 : decode cX5_recall 26 = .ok (.istore_n 3, 1) := by decide +kernel
theorem dX5_recall_27 : decode cX5_recall 27 = .ok (.iconst 1, 1) := by decide +kernel
theorem dX5_recall_28 : decode cX5_recall 28 = .ok (.istore 4, 2) := by decide +kernel
theorem dX5_recall_30 : decode cX5_recall 30 = .ok (.iload 4, 2) := by decide +kernel
theorem dX5_recall_32 : decode cX5_recall 32 = .ok (.ifCond .eq 316, 3) := by decide +kernel
theorem dX5_recall_35 : decode cX5_recall 35 = .ok (.ldc 118, 2) := by decide +kernel
theorem dX5_recall_37 : decode cX5_recall 37 = .ok (.istore 5, 2) := by decide +kernel
theorem dX5_recall_39 : decode cX5_recall 39 = .ok (.iconst 0, 1) := by decide +kernel
theorem dX5_recall_40 : decode cX5_recall 40 = .ok (.istore 6, 2) := by decide +kernel
theorem dX5_recall_42 : decode cX5_recall 42 = .ok (.iload 6, 2) := by decide +kernel
theorem dX5_recall_44 : decode cX5_recall 44 = .ok (.aload_n 0, 1) := by decide +kernel
theorem dX5_recall_45 : decode cX5_recall 45 = .ok (.getfield 76, 3) := by decide +kernel
theorem dX5_recall_48 : decode cX5_recall 48 = .ok (.if_icmp .ge 100, 3) := by decide +kernel
theorem dX5_recall_51 : decode cX5_recall 51 = .ok (.sipush 1000, 3) := by decide +kernel
theorem dX5_recall_54 : decode cX5_recall 54 = .ok (.aload_n 0, 1) := by decide +kernel
theorem dX5_recall_55 : decode cX5_recall 55 = .ok (.getfield 23, 3) := by decide +kernel
theorem dX5_recall_58 : decode cX5_recall 58 = .ok (.iload 6, 2) := by decide +kernel
theorem dX5_recall_60 : decode cX5_recall 60 = .ok (.iaload, 1) := by decide +kernel
theorem dX5_recall_61 : decode cX5_recall 61 = .ok (.imul, 1) := by decide +kernel
theorem dX5_recall_62 : decode cX5_recall 62 = .ok (.aload_n 0, 1) := by decide +kernel
theorem dX5_recall_63 : decode cX5_recall 63 = .ok (.getfield 20, 3) := by decide +kernel
theorem dX5_recall_66 : decode cX5_recall 66 = .ok (.iload 6, 2) := by decide +kernel
theorem dX5_recall_68 : decode cX5_recall 68 = .ok (.iaload, 1) := by decide +kernel
theorem dX5_recall_69 : decode cX5_recall 69 = .ok (.iadd, 1) := by decide +kernel
theorem dX5_recall_70 : decode cX5_recall 70 = .ok (.istore 7, 2) := by decide +kernel
theorem dX5_recall_72 : decode cX5_recall 72 = .ok (.aload_n 0, 1) := by decide +kernel
theorem dX5_recall_73 : decode cX5_recall 73 = .ok (.getfield 9, 3) := by decide +kernel
theorem dX5_recall_76 : decode cX5_recall 76 = .ok (.iload 6, 2) := by decide +kernel
theorem dX5_recall_78 : decode cX5_recall 78 = .ok (.iaload, 1) := by decide +kernel
theorem dX5_recall_79 : decode cX5_recall 79 = .ok (.iconst (-1), 1) := by decide +kernel
theorem dX5_recall_80 : decode cX5_recall 80 = .ok (.if_icmp .eq 38, 3) := by decide +kernel
theorem dX5_recall_83 : decode cX5_recall 83 = .ok (.aload_n 0, 1) := by decide +kernel
theorem dX5_recall_84 : decode cX5_recall 84 = .ok (.getfield 20, 3) := by decide +kernel
theorem dX5_recall_87 : decode cX5_recall 87 = .ok (.iload 6, 2) := by decide +kernel
theorem dX5_recall_89 : decode cX5_recall 89 = .ok (.iaload, 1) := by decide +kernel
theorem dX5_recall_90 : decode cX5_recall 90 = .ok (.ifCond .lt 28, 3) := by decide +kernel
theorem dX5_recall_93 : decode cX5_recall 93 = .ok (.aload_n 0, 1) := by decide +kernel
theorem dX5_recall_94 : decode cX5_recall 94 = .ok (.getfield 45, 3) := by decide +kernel
theorem dX5_recall_97 : decode cX5_recall 97 = .ok (.bipush 48, 2) := by decide +kernel
theorem dX5_recall_99 : decode cX5_recall 99 = .ok (.iload 6, 2) := by decide +kernel
theorem dX5_recall_101 : decode cX5_recall 101 = .ok (.imul, 1) := by decide +kernel
theorem dX5_recall_102 : decode cX5_recall 102 = .ok (.iload_n 1, 1) := by decide +kernel
theorem dX5_recall_103 : decode cX5_recall 103 = .ok (.iadd, 1) := by decide +kernel
theorem dX5_recall_104 : decode cX5_recall 104 = .ok (.baload, 1) := by decide +kernel
theorem dX5_recall_105 : decode cX5_recall 105 = .ok (.ifCond .eq 13, 3) := by decide +kernel
theorem dX5_recall_108 : decode cX5_recall 108 = .ok (.iload 7, 2) := by decide +kernel
theorem dX5_recall_110 : decode cX5_recall 110 = .ok (.iload_n 3, 1) := by decide +kernel
theorem dX5_recall_111 : decode cX5_recall 111 = .ok (.if_icmp .le 7, 3) := by decide +kernel
theorem dX5_recall_114 : decode cX5_recall 114 = .ok (.iconst 1, 1) := by decide +kernel
theorem dX5_recall_115 : decode cX5_recall 115 = .ok (.goto 4, 3) := by decide +kernel
theorem dX5_recall_118 : decode cX5_recall 118 = .ok (.iconst 0, 1) := by decide +kernel
theorem dX5_recall_119 : decode cX5_recall 119 = .ok (.istore 8, 2) := by decide +kernel
theorem dX5_recall_121 : decode cX5_recall 121 = .ok (.iload 8, 2) := by decide +kernel
theorem dX5_recall_123 : decode cX5_recall 123 = .ok (.ifCond .eq 15, 3) := by decide +kernel
theorem dX5_recall_126 : decode cX5_recall 126 = .ok (.iload 7, 2) := by decide +kernel
theorem dX5_recall_128 : decode cX5_recall 128 = .ok (.iload 5, 2) := by decide +kernel
theorem dX5_recall_130 : decode cX5_recall 130 = .ok (.if_icmp .ge 8, 3) := by decide +kernel
theorem dX5_recall_133 : decode cX5_recall 133 = .ok (.iload 7, 2) := by decide +kernel
theorem dX5_recall_135 : decode cX5_recall 135 = .ok (.goto 5, 3) := by decide +kernel
theorem dX5_recall_138 : decode cX5_recall 138 = .ok (.iload 5, 2) := by decide +kernel
theorem dX5_recall_140 : decode cX5_recall 140 = .ok (.istore 5, 2) := by decide +kernel
theorem dX5_recall_142 : decode cX5_recall 142 = .ok (.iinc 6 1, 3) := by decide +kernel
theorem dX5_recall_145 : decode cX5_recall 145 = .ok (.goto (-103), 3) := by decide +kernel
theorem dX5_recall_148 : decode cX5_recall 148 = .ok (.iload 5, 2) := by decide +kernel
theorem dX5_recall_150 : decode cX5_recall 150 = .ok (.ldc 118, 2) := by decide +kernel
theorem dX5_recall_152 : decode cX5_recall 152 = .ok (.if_icmp .ge 7, 3) := by decide +kernel
theorem dX5_recall_155 : decode cX5_recall 155 = .ok (.iconst 1, 1) := by decide +kernel
theorem dX5_recall_156 : decode cX5_recall 156 = .ok (.goto 4, 3) := by decide +kernel
theorem dX5_recall_159 : decode cX5_recall 159 = .ok (.iconst 0, 1) := by decide +kernel
theorem dX5_recall_160 : decode cX5_recall 160 = .ok (.istore 4, 2) := by decide +kernel
theorem dX5_recall_162 : decode cX5_recall 162 = .ok (.iload 4, 2) := by decide +kernel
theorem dX5_recall_164 : decode cX5_recall 164 = .ok (.ifCond .eq 181, 3) := by decide +kernel
theorem dX5_recall_167 : decode cX5_recall 167 = .ok (.aload_n 0, 1) := by decide +kernel
theorem dX5_recall_168 : decode cX5_recall 168 = .ok (.getfield 60, 3) := by decide +kernel
theorem dX5_recall_171 : decode cX5_recall 171 = .ok (.aload_n 0, 1) := by decide +kernel
theorem dX5_recall_172 : decode cX5_recall 172 = .ok (.getfield 115, 3) := by decide +kernel
theorem dX5_recall_175 : decode cX5_recall 175 = .ok (.iload 5, 2) := by decide +kernel
theorem dX5_recall_177 : decode cX5_recall 177 = .ok (.sipush 1000, 3) := by decide +kernel
theorem dX5_recall_180 : decode cX5_recall 180 = .ok (.irem, 1) := by decide +kernel
theorem dX5_recall_181 : decode cX5_recall 181 = .ok (.iastore, 1) := by decide +kernel
theorem dX5_recall_182 : decode cX5_recall 182 = .ok (.aload_n 0, 1) := by decide +kernel
theorem dX5_recall_183 : decode cX5_recall 183 = .ok (.getfield 63, 3) := by decide +kernel
theorem dX5_recall_186 : decode cX5_recall 186 = .ok (.aload_n 0, 1) := by decide +kernel
theorem dX5_recall_187 : decode cX5_recall 187 = .ok (.getfield 115, 3) := by decide +kernel
theorem dX5_recall_190 : decode cX5_recall 190 = .ok (.iload 5, 2) := by decide +kernel
theorem dX5_recall_192 : decode cX5_recall 192 = .ok (.sipush 1000, 3) := by decide +kernel
theorem dX5_recall_195 : decode cX5_recall 195 = .ok (.idiv, 1) := by decide +kernel
theorem dX5_recall_196 : decode cX5_recall 196 = .ok (.iastore, 1) := by decide +kernel
theorem dX5_recall_197 : decode cX5_recall 197 = .ok (.aload_n 0, 1) := by decide +kernel
theorem dX5_recall_198 : decode cX5_recall 198 = .ok (.getfield 66, 3) := by decide +kernel
theorem dX5_recall_201 : decode cX5_recall 201 = .ok (.aload_n 0, 1) := by decide +kernel
theorem dX5_recall_202 : decode cX5_recall 202 = .ok (.getfield 115, 3) := by decide +kernel
theorem dX5_recall_205 : decode cX5_recall 205 = .ok (.lconst 0, 1) := by decide +kernel
theorem dX5_recall_206 : decode cX5_recall 206 = .ok (.lastore, 1) := by decide +kernel
theorem dX5_recall_207 : decode cX5_recall 207 = .ok (.aload_n 0, 1) := by decide +kernel
theorem dX5_recall_208 : decode cX5_recall 208 = .ok (.getfield 69, 3) := by decide +kernel
theorem dX5_recall_211 : decode cX5_recall 211 = .ok (.aload_n 0, 1) := by decide +kernel
theorem dX5_recall_212 : decode cX5_recall 212 = .ok (.getfield 115, 3) := by decide +kernel
theorem dX5_recall_215 : decode cX5_recall 215 = .ok (.iconst 0, 1) := by decide +kernel
theorem dX5_recall_216 : decode cX5_recall 216 = .ok (.iastore, 1) := by decide +kernel
theorem dX5_recall_217 : decode cX5_recall 217 = .ok (.iconst 0, 1) := by decide +kernel
theorem dX5_recall_218 : decode cX5_recall 218 = .ok (.istore 6, 2) := by decide +kernel
theorem dX5_recall_220 : decode cX5_recall 220 = .ok (.iload 6, 2) := by decide +kernel
theorem dX5_recall_222 : decode cX5_recall 222 = .ok (.aload_n 0, 1) := by decide +kernel
theorem dX5_recall_223 : decode cX5_recall 223 = .ok (.getfield 76, 3) := by decide +kernel
theorem dX5_recall_226 : decode cX5_recall 226 = .ok (.if_icmp .ge 106, 3) := by decide +kernel
theorem dX5_recall_229 : decode cX5_recall 229 = .ok (.aload_n 0, 1) := by decide +kernel
theorem dX5_recall_230 : decode cX5_recall 230 = .ok (.getfield 9, 3) := by decide +kernel
theorem dX5_recall_233 : decode cX5_recall 233 = .ok (.iload 6, 2) := by decide +kernel
theorem dX5_recall_235 : decode cX5_recall 235 = .ok (.iaload, 1) := by decide +kernel
theorem dX5_recall_236 : decode cX5_recall 236 = .ok (.iconst (-1), 1) := by decide +kernel
theorem dX5_recall_237 : decode cX5_recall 237 = .ok (.if_icmp .eq 89, 3) := by decide +kernel
theorem dX5_recall_240 : decode cX5_recall 240 = .ok (.aload_n 0, 1) := by decide +kernel
theorem dX5_recall_241 : decode cX5_recall 241 = .ok (.getfield 20, 3) := by decide +kernel
theorem dX5_recall_244 : decode cX5_recall 244 = .ok (.iload 6, 2) := by decide +kernel
theorem dX5_recall_246 : decode cX5_recall 246 = .ok (.iaload, 1) := by decide +kernel
theorem dX5_recall_247 : decode cX5_recall 247 = .ok (.ifCond .lt 79, 3) := by decide +kernel
theorem dX5_recall_250 : decode cX5_recall 250 = .ok (.aload_n 0, 1) := by decide +kernel
theorem dX5_recall_251 : decode cX5_recall 251 = .ok (.getfield 45, 3) := by decide +kernel
theorem dX5_recall_254 : decode cX5_recall 254 = .ok (.bipush 48, 2) := by decide +kernel
theorem dX5_recall_256 : decode cX5_recall 256 = .ok (.iload 6, 2) := by decide +kernel
theorem dX5_recall_258 : decode cX5_recall 258 = .ok (.imul, 1) := by decide +kernel
theorem dX5_recall_259 : decode cX5_recall 259 = .ok (.iload_n 1, 1) := by decide +kernel
theorem dX5_recall_260 : decode cX5_recall 260 = .ok (.iadd, 1) := by decide +kernel
theorem dX5_recall_261 : decode cX5_recall 261 = .ok (.baload, 1) := by decide +kernel
theorem dX5_recall_262 : decode cX5_recall 262 = .ok (.ifCond .eq 64, 3) := by decide +kernel
theorem dX5_recall_265 : decode cX5_recall 265 = .ok (.sipush 1000, 3) := by decide +kernel
theorem dX5_recall_268 : decode cX5_recall 268 = .ok (.aload_n 0, 1) := by decide +kernel
theorem dX5_recall_269 : decode cX5_recall 269 = .ok (.getfield 23, 3) := by decide +kernel
theorem dX5_recall_272 : decode cX5_recall 272 = .ok (.iload 6, 2) := by decide +kernel
theorem dX5_recall_274 : decode cX5_recall 274 = .ok (.iaload, 1) := by decide +kernel
theorem dX5_recall_275 : decode cX5_recall 275 = .ok (.imul, 1) := by decide +kernel
theorem dX5_recall_276 : decode cX5_recall 276 = .ok (.aload_n 0, 1) := by decide +kernel
theorem dX5_recall_277 : decode cX5_recall 277 = .ok (.getfield 20, 3) := by decide +kernel
theorem dX5_recall_280 : decode cX5_recall 280 = .ok (.iload 6, 2) := by decide +kernel
theorem dX5_recall_282 : decode cX5_recall 282 = .ok (.iaload, 1) := by decide +kernel
theorem dX5_recall_283 : decode cX5_recall 283 = .ok (.iadd, 1) := by decide +kernel
theorem dX5_recall_284 : decode cX5_recall 284 = .ok (.iload 5, 2) := by decide +kernel
theorem dX5_recall_286 : decode cX5_recall 286 = .ok (.if_icmp .ne 40, 3) := by decide +kernel
theorem dX5_recall_289 : decode cX5_recall 289 = .ok (.aload_n 0, 1) := by decide +kernel
theorem dX5_recall_290 : decode cX5_recall 290 = .ok (.getfield 66, 3) := by decide +kernel
theorem dX5_recall_293 : decode cX5_recall 293 = .ok (.aload_n 0, 1) := by decide +kernel
theorem dX5_recall_294 : decode cX5_recall 294 = .ok (.getfield 115, 3) := by decide +kernel
theorem dX5_recall_297 : decode cX5_recall 297 = .ok (.dup2, 1) := by decide +kernel
theorem dX5_recall_298 : decode cX5_recall 298 = .ok (.laload, 1) := by decide +kernel
theorem dX5_recall_299 : decode cX5_recall 299 = .ok (.aload_n 0, 1) := by decide +kernel
theorem dX5_recall_300 : decode cX5_recall 300 = .ok (.getfield 42, 3) := by decide +kernel
theorem dX5_recall_303 : decode cX5_recall 303 = .ok (.bipush 48, 2) := by decide +kernel
theorem dX5_recall_305 : decode cX5_recall 305 = .ok (.iload 6, 2) := by decide +kernel
theorem dX5_recall_307 : decode cX5_recall 307 = .ok (.imul, 1) := by decide +kernel
theorem dX5_recall_308 : decode cX5_recall 308 = .ok (.iload_n 1, 1) := by decide +kernel
theorem dX5_recall_309 : decode cX5_recall 309 = .ok (.iadd, 1) := by decide +kernel
theorem dX5_recall_310 : decode cX5_recall 310 = .ok (.laload, 1) := by decide +kernel
theorem dX5_recall_311 : decode cX5_recall 311 = .ok (.ladd, 1) := by decide +kernel
theorem dX5_recall_312 : decode cX5_recall 312 = .ok (.lastore, 1) := by decide +kernel
theorem dX5_recall_313 : decode cX5_recall 313 = .ok (.aload_n 0, 1) := by decide +kernel
theorem dX5_recall_314 : decode cX5_recall 314 = .ok (.getfield 69, 3) := by decide +kernel
theorem dX5_recall_317 : decode cX5_recall 317 = .ok (.aload_n 0, 1) := by decide +kernel
theorem dX5_recall_318 : decode cX5_recall 318 = .ok (.getfield 115, 3) := by decide +kernel
theorem dX5_recall_321 : decode cX5_recall 321 = .ok (.dup2, 1) := by decide +kernel
theorem dX5_recall_322 : decode cX5_recall 322 = .ok (.iaload, 1) := by decide +kernel
theorem dX5_recall_323 : decode cX5_recall 323 = .ok (.iconst 1, 1) := by decide +kernel
theorem dX5_recall_324 : decode cX5_recall 324 = .ok (.iadd, 1) := by decide +kernel
theorem dX5_recall_325 : decode cX5_recall 325 = .ok (.iastore, 1) := by decide +kernel
theorem dX5_recall_326 : decode cX5_recall 326 = .ok (.iinc 6 1, 3) := by decide +kernel
theorem dX5_recall_329 : decode cX5_recall 329 = .ok (.goto (-109), 3) := by decide +kernel
theorem dX5_recall_332 : decode cX5_recall 332 = .ok (.aload_n 0, 1) := by decide +kernel
theorem dX5_recall_333 : decode cX5_recall 333 = .ok (.dup, 1) := by decide +kernel
theorem dX5_recall_334 : decode cX5_recall 334 = .ok (.getfield 115, 3) := by decide +kernel
theorem dX5_recall_337 : decode cX5_recall 337 = .ok (.iconst 1, 1) := by decide +kernel
theorem dX5_recall_338 : decode cX5_recall 338 = .ok (.iadd, 1) := by decide +kernel
theorem dX5_recall_339 : decode cX5_recall 339 = .ok (.putfield 115, 3) := by decide +kernel
theorem dX5_recall_342 : decode cX5_recall 342 = .ok (.iload 5, 2) := by decide +kernel
theorem dX5_recall_344 : decode cX5_recall 344 = .ok (.istore_n 3, 1) := by decide +kernel
theorem dX5_recall_345 : decode cX5_recall 345 = .ok (.goto (-315), 3) := by decide +kernel
theorem dX5_recall_348 : decode cX5_recall 348 = .ok (.aload_n 0, 1) := by decide +kernel
theorem dX5_recall_349 : decode cX5_recall 349 = .ok (.getfield 115, 3) := by decide +kernel
theorem dX5_recall_352 : decode cX5_recall 352 = .ok (.ireturn, 1) := by decide +kernel
theorem dX5_recalled_0 : decode cX5_recalled 0 = .ok (.aload_n 0, 1) := by decide +kernel
theorem dX5_recalled_1 : decode cX5_recalled 1 = .ok (.iconst 0, 1) := by decide +kernel
theorem dX5_recalled_2 : decode cX5_recalled 2 = .ok (.putfield 72, 3) := by decide +kernel
theorem dX5_recalled_5 : decode cX5_recalled 5 = .ok (.iload_n 1, 1) := by decide +kernel
theorem dX5_recalled_6 : decode cX5_recalled 6 = .ok (.ifCond .lt 11, 3) := by decide +kernel
theorem dX5_recalled_9 : decode cX5_recalled 9 = .ok (.iload_n 1, 1) := by decide +kernel
theorem dX5_recalled_10 : decode cX5_recalled 10 = .ok (.aload_n 0, 1) := by decide +kernel
theorem dX5_recalled_11 : decode cX5_recalled 11 = .ok (.getfield 115, 3) := by decide +kernel
theorem dX5_recalled_14 : decode cX5_recalled 14 = .ok (.if_icmp .lt 5, 3) := by decide +kernel
theorem dX5_recalled_17 : decode cX5_recalled 17 = .ok (.iconst (-1), 1) := by decide +kernel
theorem dX5_recalled_18 : decode cX5_recalled 18 = .ok (.ireturn, 1) := by decide +kernel
theorem dX5_recalled_19 : decode cX5_recalled 19 = .ok (.iload_n 2, 1) := by decide +kernel
theorem dX5_recalled_20 : decode cX5_recalled 20 = .ok (.tableswitch 79 0 3 #[32, 39, 46, 72], 32) := by decide +kernel
theorem dX5_recalled_52 : decode cX5_recalled 52 = .ok (.aload_n 0, 1) := by decide +kernel
theorem dX5_recalled_53 : decode cX5_recalled 53 = .ok (.getfield 60, 3) := by decide +kernel
theorem dX5_recalled_56 : decode cX5_recalled 56 = .ok (.iload_n 1, 1) := by decide +kernel
theorem dX5_recalled_57 : decode cX5_recalled 57 = .ok (.iaload, 1) := by decide +kernel
theorem dX5_recalled_58 : decode cX5_recalled 58 = .ok (.ireturn, 1) := by decide +kernel
theorem dX5_recalled_59 : decode cX5_recalled 59 = .ok (.aload_n 0, 1) := by decide +kernel
theorem dX5_recalled_60 : decode cX5_recalled 60 = .ok (.getfield 63, 3) := by decide +kernel
theorem dX5_recalled_63 : decode cX5_recalled 63 = .ok (.iload_n 1, 1) := by decide +kernel
theorem dX5_recalled_64 : decode cX5_recalled 64 = .ok (.iaload, 1) := by decide +kernel
theorem dX5_recalled_65 : decode cX5_recalled 65 = .ok (.ireturn, 1) := by decide +kernel
theorem dX5_recalled_66 : decode cX5_recalled 66 = .ok (.aload_n 0, 1) := by decide +kernel
theorem dX5_recalled_67 : decode cX5_recalled 67 = .ok (.getfield 66, 3) := by decide +kernel
theorem dX5_recalled_70 : decode cX5_recalled 70 = .ok (.iload_n 1, 1) := by decide +kernel
theorem dX5_recalled_71 : decode cX5_recalled 71 = .ok (.laload, 1) := by decide +kernel
theorem dX5_recalled_72 : decode cX5_recalled 72 = .ok (.ldc2_w 119, 3) := by decide +kernel
theorem dX5_recalled_75 : decode cX5_recalled 75 = .ok (.lcmp, 1) := by decide +kernel
theorem dX5_recalled_76 : decode cX5_recalled 76 = .ok (.ifCond .le 8, 3) := by decide +kernel
theorem dX5_recalled_79 : decode cX5_recalled 79 = .ok (.ldc 121, 2) := by decide +kernel
theorem dX5_recalled_81 : decode cX5_recalled 81 = .ok (.goto 10, 3) := by decide +kernel
theorem dX5_recalled_84 : decode cX5_recalled 84 = .ok (.aload_n 0, 1) := by decide +kernel
theorem dX5_recalled_85 : decode cX5_recalled 85 = .ok (.getfield 66, 3) := by decide +kernel
theorem dX5_recalled_88 : decode cX5_recalled 88 = .ok (.iload_n 1, 1) := by decide +kernel
theorem dX5_recalled_89 : decode cX5_recalled 89 = .ok (.laload, 1) := by decide +kernel
theorem dX5_recalled_90 : decode cX5_recalled 90 = .ok (.l2i, 1) := by decide +kernel
theorem dX5_recalled_91 : decode cX5_recalled 91 = .ok (.ireturn, 1) := by decide +kernel
theorem dX5_recalled_92 : decode cX5_recalled 92 = .ok (.aload_n 0, 1) := by decide +kernel
theorem dX5_recalled_93 : decode cX5_recalled 93 = .ok (.getfield 69, 3) := by decide +kernel
theorem dX5_recalled_96 : decode cX5_recalled 96 = .ok (.iload_n 1, 1) := by decide +kernel
theorem dX5_recalled_97 : decode cX5_recalled 97 = .ok (.iaload, 1) := by decide +kernel
theorem dX5_recalled_98 : decode cX5_recalled 98 = .ok (.ireturn, 1) := by decide +kernel
theorem dX5_recalled_99 : decode cX5_recalled 99 = .ok (.iconst (-1), 1) := by decide +kernel
theorem dX5_recalled_100 : decode cX5_recalled 100 = .ok (.ireturn, 1) := by decide +kernel
theorem dX5_hold_0 : decode cX5_hold 0 = .ok (.aload_n 0, 1) := by decide +kernel
theorem dX5_hold_1 : decode cX5_hold 1 = .ok (.iconst 0, 1) := by decide +kernel
theorem dX5_hold_2 : decode cX5_hold 2 = .ok (.putfield 72, 3) := by decide +kernel
theorem dX5_hold_5 : decode cX5_hold 5 = .ok (.aload_n 0, 1) := by decide +kernel
theorem dX5_hold_6 : decode cX5_hold 6 = .ok (.iload_n 1, 1) := by decide +kernel
theorem dX5_hold_7 : decode cX5_hold 7 = .ok (.invokevirtual 79, 3) := by decide +kernel
theorem dX5_hold_10 : decode cX5_hold 10 = .ok (.ifCond .eq 13, 3) := by decide +kernel
theorem dX5_hold_13 : decode cX5_hold 13 = .ok (.aload_n 0, 1) := by decide +kernel
theorem dX5_hold_14 : decode cX5_hold 14 = .ok (.getfield 26, 3) := by decide +kernel
theorem dX5_hold_17 : decode cX5_hold 17 = .ok (.iload_n 1, 1) := by decide +kernel
theorem dX5_hold_18 : decode cX5_hold 18 = .ok (.baload, 1) := by decide +kernel
theorem dX5_hold_19 : decode cX5_hold 19 = .ok (.iload_n 2, 1) := by decide +kernel
theorem dX5_hold_20 : decode cX5_hold 20 = .ok (.if_icmp .ne 5, 3) := by decide +kernel
theorem dX5_hold_23 : decode cX5_hold 23 = .ok (.iconst 0, 1) := by decide +kernel
theorem dX5_hold_24 : decode cX5_hold 24 = .ok (.ireturn, 1) := by decide +kernel
theorem dX5_hold_25 : decode cX5_hold 25 = .ok (.aload_n 0, 1) := by decide +kernel
theorem dX5_hold_26 : decode cX5_hold 26 = .ok (.getfield 26, 3) := by decide +kernel
theorem dX5_hold_29 : decode cX5_hold 29 = .ok (.iload_n 1, 1) := by decide +kernel
theorem dX5_hold_30 : decode cX5_hold 30 = .ok (.iload_n 2, 1) := by decide +kernel
theorem dX5_hold_31 : decode cX5_hold 31 = .ok (.bastore, 1) := by decide +kernel
theorem dX5_hold_32 : decode cX5_hold 32 = .ok (.iconst 1, 1) := by decide +kernel
theorem dX5_hold_33 : decode cX5_hold 33 = .ok (.ireturn, 1) := by decide +kernel
theorem dX5_correct_0 : decode cX5_correct 0 = .ok (.aload_n 0, 1) := by decide +kernel
theorem dX5_correct_1 : decode cX5_correct 1 = .ok (.iconst 0, 1) := by decide +kernel
theorem dX5_correct_2 : decode cX5_correct 2 = .ok (.putfield 72, 3) := by decide +kernel
theorem dX5_correct_5 : decode cX5_correct 5 = .ok (.iload_n 1, 1) := by decide +kernel
theorem dX5_correct_6 : decode cX5_correct 6 = .ok (.ifCond .lt 69, 3) := by decide +kernel
theorem dX5_correct_9 : decode cX5_correct 9 = .ok (.iload_n 1, 1) := by decide +kernel
theorem dX5_correct_10 : decode cX5_correct 10 = .ok (.aload_n 0, 1) := by decide +kernel
theorem dX5_correct_11 : decode cX5_correct 11 = .ok (.getfield 93, 3) := by decide +kernel
theorem dX5_correct_14 : decode cX5_correct 14 = .ok (.if_icmp .ge 61, 3) := by decide +kernel
theorem dX5_correct_17 : decode cX5_correct 17 = .ok (.lload_n 2, 1) := by decide +kernel
theorem dX5_correct_18 : decode cX5_correct 18 = .ok (.lconst 0, 1) := by decide +kernel
theorem dX5_correct_19 : decode cX5_correct 19 = .ok (.lcmp, 1) := by decide +kernel
theorem dX5_correct_20 : decode cX5_correct 20 = .ok (.ifCond .lt 55, 3) := by decide +kernel
theorem dX5_correct_23 : decode cX5_correct 23 = .ok (.lload_n 2, 1) := by decide +kernel
theorem dX5_correct_24 : decode cX5_correct 24 = .ok (.ldc2_w 83, 3) := by decide +kernel
theorem dX5_correct_27 : decode cX5_correct 27 = .ok (.lcmp, 1) := by decide +kernel
theorem dX5_correct_28 : decode cX5_correct 28 = .ok (.ifCond .gt 47, 3) := by decide +kernel
theorem dX5_correct_31 : decode cX5_correct 31 = .ok (.lload 4, 2) := by decide +kernel
theorem dX5_correct_33 : decode cX5_correct 33 = .ok (.aload_n 0, 1) := by decide +kernel
theorem dX5_correct_34 : decode cX5_correct 34 = .ok (.getfield 122, 3) := by decide +kernel
theorem dX5_correct_37 : decode cX5_correct 37 = .ok (.lcmp, 1) := by decide +kernel
theorem dX5_correct_38 : decode cX5_correct 38 = .ok (.ifCond .lt 37, 3) := by decide +kernel
theorem dX5_correct_41 : decode cX5_correct 41 = .ok (.lload 4, 2) := by decide +kernel
theorem dX5_correct_43 : decode cX5_correct 43 = .ok (.ldc2_w 85, 3) := by decide +kernel
theorem dX5_correct_46 : decode cX5_correct 46 = .ok (.lcmp, 1) := by decide +kernel
theorem dX5_correct_47 : decode cX5_correct 47 = .ok (.ifCond .gt 28, 3) := by decide +kernel
theorem dX5_correct_50 : decode cX5_correct 50 = .ok (.aload_n 0, 1) := by decide +kernel
theorem dX5_correct_51 : decode cX5_correct 51 = .ok (.getfield 26, 3) := by decide +kernel
theorem dX5_correct_54 : decode cX5_correct 54 = .ok (.aload_n 0, 1) := by decide +kernel
theorem dX5_correct_55 : decode cX5_correct 55 = .ok (.getfield 30, 3) := by decide +kernel
theorem dX5_correct_58 : decode cX5_correct 58 = .ok (.iload_n 1, 1) := by decide +kernel
theorem dX5_correct_59 : decode cX5_correct 59 = .ok (.iaload, 1) := by decide +kernel
theorem dX5_correct_60 : decode cX5_correct 60 = .ok (.baload, 1) := by decide +kernel
theorem dX5_correct_61 : decode cX5_correct 61 = .ok (.ifCond .eq 16, 3) := by decide +kernel
theorem dX5_correct_64 : decode cX5_correct 64 = .ok (.lload_n 2, 1) := by decide +kernel
theorem dX5_correct_65 : decode cX5_correct 65 = .ok (.aload_n 0, 1) := by decide +kernel
theorem dX5_correct_66 : decode cX5_correct 66 = .ok (.getfield 36, 3) := by decide +kernel
theorem dX5_correct_69 : decode cX5_correct 69 = .ok (.iload_n 1, 1) := by decide +kernel
theorem dX5_correct_70 : decode cX5_correct 70 = .ok (.laload, 1) := by decide +kernel
theorem dX5_correct_71 : decode cX5_correct 71 = .ok (.lcmp, 1) := by decide +kernel
theorem dX5_correct_72 : decode cX5_correct 72 = .ok (.ifCond .le 5, 3) := by decide +kernel
theorem dX5_correct_75 : decode cX5_correct 75 = .ok (.iconst (-1), 1) := by decide +kernel
theorem dX5_correct_76 : decode cX5_correct 76 = .ok (.ireturn, 1) := by decide +kernel
theorem dX5_correct_77 : decode cX5_correct 77 = .ok (.aload_n 0, 1) := by decide +kernel
theorem dX5_correct_78 : decode cX5_correct 78 = .ok (.invokevirtual 108, 3) := by decide +kernel
theorem dX5_correct_81 : decode cX5_correct 81 = .ok (.istore 6, 2) := by decide +kernel
theorem dX5_correct_83 : decode cX5_correct 83 = .ok (.aload_n 0, 1) := by decide +kernel
theorem dX5_correct_84 : decode cX5_correct 84 = .ok (.getfield 42, 3) := by decide +kernel
theorem dX5_correct_87 : decode cX5_correct 87 = .ok (.iconst 0, 1) := by decide +kernel
theorem dX5_correct_88 : decode cX5_correct 88 = .ok (.aload_n 0, 1) := by decide +kernel
theorem dX5_correct_89 : decode cX5_correct 89 = .ok (.getfield 48, 3) := by decide +kernel
theorem dX5_correct_92 : decode cX5_correct 92 = .ok (.iconst 0, 1) := by decide +kernel
theorem dX5_correct_93 : decode cX5_correct 93 = .ok (.sipush 2304, 3) := by decide +kernel
theorem dX5_correct_96 : decode cX5_correct 96 = .ok (.invokestatic 126, 3) := by decide +kernel
theorem dX5_correct_99 : decode cX5_correct 99 = .ok (.aload_n 0, 1) := by decide +kernel
theorem dX5_correct_100 : decode cX5_correct 100 = .ok (.getfield 36, 3) := by decide +kernel
theorem dX5_correct_103 : decode cX5_correct 103 = .ok (.iload_n 1, 1) := by decide +kernel
theorem dX5_correct_104 : decode cX5_correct 104 = .ok (.laload, 1) := by decide +kernel
theorem dX5_correct_105 : decode cX5_correct 105 = .ok (.lstore 7, 2) := by decide +kernel
theorem dX5_correct_107 : decode cX5_correct 107 = .ok (.aload_n 0, 1) := by decide +kernel
theorem dX5_correct_108 : decode cX5_correct 108 = .ok (.getfield 36, 3) := by decide +kernel
theorem dX5_correct_111 : decode cX5_correct 111 = .ok (.iload_n 1, 1) := by decide +kernel
theorem dX5_correct_112 : decode cX5_correct 112 = .ok (.lload_n 2, 1) := by decide +kernel
theorem dX5_correct_113 : decode cX5_correct 113 = .ok (.lastore, 1) := by decide +kernel
theorem dX5_correct_114 : decode cX5_correct 114 = .ok (.aload_n 0, 1) := by decide +kernel
theorem dX5_correct_115 : decode cX5_correct 115 = .ok (.invokevirtual 108, 3) := by decide +kernel
theorem dX5_correct_118 : decode cX5_correct 118 = .ok (.ifCond .ne 13, 3) := by decide +kernel
theorem dX5_correct_121 : decode cX5_correct 121 = .ok (.aload_n 0, 1) := by decide +kernel
theorem dX5_correct_122 : decode cX5_correct 122 = .ok (.getfield 36, 3) := by decide +kernel
theorem dX5_correct_125 : decode cX5_correct 125 = .ok (.iload_n 1, 1) := by decide +kernel
theorem dX5_correct_126 : decode cX5_correct 126 = .ok (.lload 7, 2) := by decide +kernel
theorem dX5_correct_128 : decode cX5_correct 128 = .ok (.lastore, 1) := by decide +kernel
theorem dX5_correct_129 : decode cX5_correct 129 = .ok (.iconst (-1), 1) := by decide +kernel
theorem dX5_correct_130 : decode cX5_correct 130 = .ok (.ireturn, 1) := by decide +kernel
theorem dX5_correct_131 : decode cX5_correct 131 = .ok (.aload_n 0, 1) := by decide +kernel
theorem dX5_correct_132 : decode cX5_correct 132 = .ok (.lload 4, 2) := by decide +kernel
theorem dX5_correct_134 : decode cX5_correct 134 = .ok (.putfield 122, 3) := by decide +kernel
theorem dX5_correct_137 : decode cX5_correct 137 = .ok (.iconst 0, 1) := by decide +kernel
theorem dX5_correct_138 : decode cX5_correct 138 = .ok (.istore 9, 2) := by decide +kernel
theorem dX5_correct_140 : decode cX5_correct 140 = .ok (.iconst 0, 1) := by decide +kernel
theorem dX5_correct_141 : decode cX5_correct 141 = .ok (.istore 10, 2) := by decide +kernel
theorem dX5_correct_143 : decode cX5_correct 143 = .ok (.iload 10, 2) := by decide +kernel
theorem dX5_correct_145 : decode cX5_correct 145 = .ok (.aload_n 0, 1) := by decide +kernel
theorem dX5_correct_146 : decode cX5_correct 146 = .ok (.getfield 76, 3) := by decide +kernel
theorem dX5_correct_149 : decode cX5_correct 149 = .ok (.if_icmp .ge 87, 3) := by decide +kernel
theorem dX5_correct_152 : decode cX5_correct 152 = .ok (.iconst 1, 1) := by decide +kernel
theorem dX5_correct_153 : decode cX5_correct 153 = .ok (.istore 11, 2) := by decide +kernel
theorem dX5_correct_155 : decode cX5_correct 155 = .ok (.iconst 0, 1) := by decide +kernel
theorem dX5_correct_156 : decode cX5_correct 156 = .ok (.istore 12, 2) := by decide +kernel
theorem dX5_correct_158 : decode cX5_correct 158 = .ok (.iload 12, 2) := by decide +kernel
theorem dX5_correct_160 : decode cX5_correct 160 = .ok (.aload_n 0, 1) := by decide +kernel
theorem dX5_correct_161 : decode cX5_correct 161 = .ok (.getfield 76, 3) := by decide +kernel
theorem dX5_correct_164 : decode cX5_correct 164 = .ok (.if_icmp .ge 51, 3) := by decide +kernel
theorem dX5_correct_167 : decode cX5_correct 167 = .ok (.iload 11, 2) := by decide +kernel
theorem dX5_correct_169 : decode cX5_correct 169 = .ok (.ifCond .eq 37, 3) := by decide +kernel
theorem dX5_correct_172 : decode cX5_correct 172 = .ok (.aload_n 0, 1) := by decide +kernel
theorem dX5_correct_173 : decode cX5_correct 173 = .ok (.getfield 42, 3) := by decide +kernel
theorem dX5_correct_176 : decode cX5_correct 176 = .ok (.bipush 48, 2) := by decide +kernel
theorem dX5_correct_178 : decode cX5_correct 178 = .ok (.iload 10, 2) := by decide +kernel
theorem dX5_correct_180 : decode cX5_correct 180 = .ok (.imul, 1) := by decide +kernel
theorem dX5_correct_181 : decode cX5_correct 181 = .ok (.iload 12, 2) := by decide +kernel
theorem dX5_correct_183 : decode cX5_correct 183 = .ok (.iadd, 1) := by decide +kernel
theorem dX5_correct_184 : decode cX5_correct 184 = .ok (.laload, 1) := by decide +kernel
theorem dX5_correct_185 : decode cX5_correct 185 = .ok (.aload_n 0, 1) := by decide +kernel
theorem dX5_correct_186 : decode cX5_correct 186 = .ok (.getfield 48, 3) := by decide +kernel
theorem dX5_correct_189 : decode cX5_correct 189 = .ok (.bipush 48, 2) := by decide +kernel
theorem dX5_correct_191 : decode cX5_correct 191 = .ok (.iload 10, 2) := by decide +kernel
theorem dX5_correct_193 : decode cX5_correct 193 = .ok (.imul, 1) := by decide +kernel
theorem dX5_correct_194 : decode cX5_correct 194 = .ok (.iload 12, 2) := by decide +kernel
theorem dX5_correct_196 : decode cX5_correct 196 = .ok (.iadd, 1) := by decide +kernel
theorem dX5_correct_197 : decode cX5_correct 197 = .ok (.laload, 1) := by decide +kernel
theorem dX5_correct_198 : decode cX5_correct 198 = .ok (.lcmp, 1) := by decide +kernel
theorem dX5_correct_199 : decode cX5_correct 199 = .ok (.ifCond .ne 7, 3) := by decide +kernel
theorem dX5_correct_202 : decode cX5_correct 202 = .ok (.iconst 1, 1) := by decide +kernel
theorem dX5_correct_203 : decode cX5_correct 203 = .ok (.goto 4, 3) := by decide +kernel
theorem dX5_correct_206 : decode cX5_correct 206 = .ok (.iconst 0, 1) := by decide +kernel
theorem dX5_correct_207 : decode cX5_correct 207 = .ok (.istore 11, 2) := by decide +kernel
theorem dX5_correct_209 : decode cX5_correct 209 = .ok (.iinc 12 1, 3) := by decide +kernel
theorem dX5_correct_212 : decode cX5_correct 212 = .ok (.goto (-54), 3) := by decide +kernel
theorem dX5_correct_215 : decode cX5_correct 215 = .ok (.iload 9, 2) := by decide +kernel
theorem dX5_correct_217 : decode cX5_correct 217 = .ok (.iload 11, 2) := by decide +kernel
theorem dX5_correct_219 : decode cX5_correct 219 = .ok (.ifCond .eq 7, 3) := by decide +kernel
theorem dX5_correct_222 : decode cX5_correct 222 = .ok (.iconst 0, 1) := by decide +kernel
theorem dX5_correct_223 : decode cX5_correct 223 = .ok (.goto 4, 3) := by decide +kernel
theorem dX5_correct_226 : decode cX5_correct 226 = .ok (.iconst 1, 1) := by decide +kernel
theorem dX5_correct_227 : decode cX5_correct 227 = .ok (.iadd, 1) := by decide +kernel
theorem dX5_correct_228 : decode cX5_correct 228 = .ok (.istore 9, 2) := by decide +kernel
theorem dX5_correct_230 : decode cX5_correct 230 = .ok (.iinc 10 1, 3) := by decide +kernel
theorem dX5_correct_233 : decode cX5_correct 233 = .ok (.goto (-90), 3) := by decide +kernel
theorem dX5_correct_236 : decode cX5_correct 236 = .ok (.iload 9, 2) := by decide +kernel
theorem dX5_correct_238 : decode cX5_correct 238 = .ok (.ireturn, 1) := by decide +kernel
theorem dX5_top_0 : decode cX5_top 0 = .ok (.aload_n 0, 1) := by decide +kernel
theorem dX5_top_1 : decode cX5_top 1 = .ok (.iconst 0, 1) := by decide +kernel
theorem dX5_top_2 : decode cX5_top 2 = .ok (.putfield 72, 3) := by decide +kernel
theorem dX5_top_5 : decode cX5_top 5 = .ok (.aload_n 0, 1) := by decide +kernel
theorem dX5_top_6 : decode cX5_top 6 = .ok (.iload_n 1, 1) := by decide +kernel
theorem dX5_top_7 : decode cX5_top 7 = .ok (.invokevirtual 79, 3) := by decide +kernel
theorem dX5_top_10 : decode cX5_top 10 = .ok (.ifCond .eq 40, 3) := by decide +kernel
theorem dX5_top_13 : decode cX5_top 13 = .ok (.aload_n 0, 1) := by decide +kernel
theorem dX5_top_14 : decode cX5_top 14 = .ok (.getfield 9, 3) := by decide +kernel
theorem dX5_top_17 : decode cX5_top 17 = .ok (.iload_n 1, 1) := by decide +kernel
theorem dX5_top_18 : decode cX5_top 18 = .ok (.iaload, 1) := by decide +kernel
theorem dX5_top_19 : decode cX5_top 19 = .ok (.iconst 1, 1) := by decide +kernel
theorem dX5_top_20 : decode cX5_top 20 = .ok (.if_icmp .lt 30, 3) := by decide +kernel
theorem dX5_top_23 : decode cX5_top 23 = .ok (.iload_n 2, 1) := by decide +kernel
theorem dX5_top_24 : decode cX5_top 24 = .ok (.iconst (-1), 1) := by decide +kernel
theorem dX5_top_25 : decode cX5_top 25 = .ok (.if_icmp .eq 11, 3) := by decide +kernel
theorem dX5_top_28 : decode cX5_top 28 = .ok (.aload_n 0, 1) := by decide +kernel
theorem dX5_top_29 : decode cX5_top 29 = .ok (.iload_n 2, 1) := by decide +kernel
theorem dX5_top_30 : decode cX5_top 30 = .ok (.invokevirtual 112, 3) := by decide +kernel
theorem dX5_top_33 : decode cX5_top 33 = .ok (.ifCond .eq 17, 3) := by decide +kernel
theorem dX5_top_36 : decode cX5_top 36 = .ok (.lload_n 3, 1) := by decide +kernel
theorem dX5_top_37 : decode cX5_top 37 = .ok (.lconst 1, 1) := by decide +kernel
theorem dX5_top_38 : decode cX5_top 38 = .ok (.lcmp, 1) := by decide +kernel
theorem dX5_top_39 : decode cX5_top 39 = .ok (.ifCond .lt 11, 3) := by decide +kernel
theorem dX5_top_42 : decode cX5_top 42 = .ok (.lload_n 3, 1) := by decide +kernel
theorem dX5_top_43 : decode cX5_top 43 = .ok (.ldc2_w 83, 3) := by decide +kernel
theorem dX5_top_46 : decode cX5_top 46 = .ok (.lcmp, 1) := by decide +kernel
theorem dX5_top_47 : decode cX5_top 47 = .ok (.ifCond .le 5, 3) := by decide +kernel
theorem dX5_top_50 : decode cX5_top 50 = .ok (.iconst (-1), 1) := by decide +kernel
theorem dX5_top_51 : decode cX5_top 51 = .ok (.ireturn, 1) := by decide +kernel
theorem dX5_top_52 : decode cX5_top 52 = .ok (.aload_n 0, 1) := by decide +kernel
theorem dX5_top_53 : decode cX5_top 53 = .ok (.invokevirtual 108, 3) := by decide +kernel
theorem dX5_top_56 : decode cX5_top 56 = .ok (.istore 5, 2) := by decide +kernel
theorem dX5_top_58 : decode cX5_top 58 = .ok (.lconst 0, 1) := by decide +kernel
theorem dX5_top_59 : decode cX5_top 59 = .ok (.lstore 6, 2) := by decide +kernel
theorem dX5_top_61 : decode cX5_top 61 = .ok (.iconst 0, 1) := by decide +kernel
theorem dX5_top_62 : decode cX5_top 62 = .ok (.istore 8, 2) := by decide +kernel
theorem dX5_top_64 : decode cX5_top 64 = .ok (.iload 8, 2) := by decide +kernel
theorem dX5_top_66 : decode cX5_top 66 = .ok (.aload_n 0, 1) := by decide +kernel
theorem dX5_top_67 : decode cX5_top 67 = .ok (.getfield 93, 3) := by decide +kernel
theorem dX5_top_70 : decode cX5_top 70 = .ok (.if_icmp .ge 36, 3) := by decide +kernel
theorem dX5_top_73 : decode cX5_top 73 = .ok (.aload_n 0, 1) := by decide +kernel
theorem dX5_top_74 : decode cX5_top 74 = .ok (.getfield 39, 3) := by decide +kernel
theorem dX5_top_77 : decode cX5_top 77 = .ok (.iload 8, 2) := by decide +kernel
theorem dX5_top_79 : decode cX5_top 79 = .ok (.laload, 1) := by decide +kernel
theorem dX5_top_80 : decode cX5_top 80 = .ok (.lload 6, 2) := by decide +kernel
theorem dX5_top_82 : decode cX5_top 82 = .ok (.lcmp, 1) := by decide +kernel
theorem dX5_top_83 : decode cX5_top 83 = .ok (.ifCond .le 13, 3) := by decide +kernel
theorem dX5_top_86 : decode cX5_top 86 = .ok (.aload_n 0, 1) := by decide +kernel
theorem dX5_top_87 : decode cX5_top 87 = .ok (.getfield 39, 3) := by decide +kernel
theorem dX5_top_90 : decode cX5_top 90 = .ok (.iload 8, 2) := by decide +kernel
theorem dX5_top_92 : decode cX5_top 92 = .ok (.laload, 1) := by decide +kernel
theorem dX5_top_93 : decode cX5_top 93 = .ok (.goto 5, 3) := by decide +kernel
theorem dX5_top_96 : decode cX5_top 96 = .ok (.lload 6, 2) := by decide +kernel
theorem dX5_top_98 : decode cX5_top 98 = .ok (.lstore 6, 2) := by decide +kernel
theorem dX5_top_100 : decode cX5_top 100 = .ok (.iinc 8 1, 3) := by decide +kernel
theorem dX5_top_103 : decode cX5_top 103 = .ok (.goto (-39), 3) := by decide +kernel
theorem dX5_top_106 : decode cX5_top 106 = .ok (.aload_n 0, 1) := by decide +kernel
theorem dX5_top_107 : decode cX5_top 107 = .ok (.getfield 93, 3) := by decide +kernel
theorem dX5_top_110 : decode cX5_top 110 = .ok (.istore 8, 2) := by decide +kernel
theorem dX5_top_112 : decode cX5_top 112 = .ok (.lload_n 3, 1) := by decide +kernel
theorem dX5_top_113 : decode cX5_top 113 = .ok (.lstore 9, 2) := by decide +kernel
theorem dX5_top_115 : decode cX5_top 115 = .ok (.ldc2_w 91, 3) := by decide +kernel
theorem dX5_top_118 : decode cX5_top 118 = .ok (.lstore 11, 2) := by decide +kernel
theorem dX5_top_120 : decode cX5_top 120 = .ok (.iconst (-1), 1) := by decide +kernel
theorem dX5_top_121 : decode cX5_top 121 = .ok (.istore 13, 2) := by decide +kernel
theorem dX5_top_123 : decode cX5_top 123 = .ok (.iconst 1, 1) := by decide +kernel
theorem dX5_top_124 : decode cX5_top 124 = .ok (.istore 14, 2) := by decide +kernel
theorem dX5_top_126 : decode cX5_top 126 = .ok (.iload 14, 2) := by decide +kernel
theorem dX5_top_128 : decode cX5_top 128 = .ok (.ifCond .eq 283, 3) := by decide +kernel
theorem dX5_top_131 : decode cX5_top 131 = .ok (.lload 9, 2) := by decide +kernel
theorem dX5_top_133 : decode cX5_top 133 = .ok (.lconst 0, 1) := by decide +kernel
theorem dX5_top_134 : decode cX5_top 134 = .ok (.lcmp, 1) := by decide +kernel
theorem dX5_top_135 : decode cX5_top 135 = .ok (.ifCond .le 276, 3) := by decide +kernel
theorem dX5_top_138 : decode cX5_top 138 = .ok (.iconst (-1), 1) := by decide +kernel
theorem dX5_top_139 : decode cX5_top 139 = .ok (.istore 15, 2) := by decide +kernel
theorem dX5_top_141 : decode cX5_top 141 = .ok (.iconst 0, 1) := by decide +kernel
theorem dX5_top_142 : decode cX5_top 142 = .ok (.istore 16, 2) := by decide +kernel
theorem dX5_top_144 : decode cX5_top 144 = .ok (.iload 16, 2) := by decide +kernel
theorem dX5_top_146 : decode cX5_top 146 = .ok (.aload_n 0, 1) := by decide +kernel
theorem dX5_top_147 : decode cX5_top 147 = .ok (.getfield 76, 3) := by decide +kernel
theorem dX5_top_150 : decode cX5_top 150 = .ok (.if_icmp .ge 161, 3) := by decide +kernel
theorem dX5_top_153 : decode cX5_top 153 = .ok (.aload_n 0, 1) := by decide +kernel
theorem dX5_top_154 : decode cX5_top 154 = .ok (.getfield 9, 3) := by decide +kernel
theorem dX5_top_157 : decode cX5_top 157 = .ok (.iload 16, 2) := by decide +kernel
theorem dX5_top_159 : decode cX5_top 159 = .ok (.iaload, 1) := by decide +kernel
theorem dX5_top_160 : decode cX5_top 160 = .ok (.iconst (-1), 1) := by decide +kernel
theorem dX5_top_161 : decode cX5_top 161 = .ok (.if_icmp .ne 40, 3) := by decide +kernel
theorem dX5_top_164 : decode cX5_top 164 = .ok (.aload_n 0, 1) := by decide +kernel
theorem dX5_top_165 : decode cX5_top 165 = .ok (.getfield 17, 3) := by decide +kernel
theorem dX5_top_168 : decode cX5_top 168 = .ok (.iload 16, 2) := by decide +kernel
theorem dX5_top_170 : decode cX5_top 170 = .ok (.laload, 1) := by decide +kernel
theorem dX5_top_171 : decode cX5_top 171 = .ok (.lload 11, 2) := by decide +kernel
theorem dX5_top_173 : decode cX5_top 173 = .ok (.lcmp, 1) := by decide +kernel
theorem dX5_top_174 : decode cX5_top 174 = .ok (.ifCond .gt 23, 3) := by decide +kernel
theorem dX5_top_177 : decode cX5_top 177 = .ok (.aload_n 0, 1) := by decide +kernel
theorem dX5_top_178 : decode cX5_top 178 = .ok (.getfield 17, 3) := by decide +kernel
theorem dX5_top_181 : decode cX5_top 181 = .ok (.iload 16, 2) := by decide +kernel
theorem dX5_top_183 : decode cX5_top 183 = .ok (.laload, 1) := by decide +kernel
theorem dX5_top_184 : decode cX5_top 184 = .ok (.lload 11, 2) := by decide +kernel
theorem dX5_top_186 : decode cX5_top 186 = .ok (.lcmp, 1) := by decide +kernel
theorem dX5_top_187 : decode cX5_top 187 = .ok (.ifCond .ne 14, 3) := by decide +kernel
theorem dX5_top_190 : decode cX5_top 190 = .ok (.iload 16, 2) := by decide +kernel
theorem dX5_top_192 : decode cX5_top 192 = .ok (.iload 13, 2) := by decide +kernel
theorem dX5_top_194 : decode cX5_top 194 = .ok (.if_icmp .le 7, 3) := by decide +kernel
theorem dX5_top_197 : decode cX5_top 197 = .ok (.iconst 1, 1) := by decide +kernel
theorem dX5_top_198 : decode cX5_top 198 = .ok (.goto 4, 3) := by decide +kernel
theorem dX5_top_201 : decode cX5_top 201 = .ok (.iconst 0, 1) := by decide +kernel
theorem dX5_top_202 : decode cX5_top 202 = .ok (.istore 17, 2) := by decide +kernel
theorem dX5_top_204 : decode cX5_top 204 = .ok (.iload 17, 2) := by decide +kernel
theorem dX5_top_206 : decode cX5_top 206 = .ok (.ifCond .eq 59, 3) := by decide +kernel
theorem dX5_top_209 : decode cX5_top 209 = .ok (.aload_n 0, 1) := by decide +kernel
theorem dX5_top_210 : decode cX5_top 210 = .ok (.getfield 26, 3) := by decide +kernel
theorem dX5_top_213 : decode cX5_top 213 = .ok (.iload 16, 2) := by decide +kernel
theorem dX5_top_215 : decode cX5_top 215 = .ok (.baload, 1) := by decide +kernel
theorem dX5_top_216 : decode cX5_top 216 = .ok (.ifCond .ne 49, 3) := by decide +kernel
theorem dX5_top_219 : decode cX5_top 219 = .ok (.aload_n 0, 1) := by decide +kernel
theorem dX5_top_220 : decode cX5_top 220 = .ok (.getfield 42, 3) := by decide +kernel
theorem dX5_top_223 : decode cX5_top 223 = .ok (.bipush 48, 2) := by decide +kernel
theorem dX5_top_225 : decode cX5_top 225 = .ok (.iload 16, 2) := by decide +kernel
theorem dX5_top_227 : decode cX5_top 227 = .ok (.imul, 1) := by decide +kernel
theorem dX5_top_228 : decode cX5_top 228 = .ok (.iload 16, 2) := by decide +kernel
theorem dX5_top_230 : decode cX5_top 230 = .ok (.iadd, 1) := by decide +kernel
theorem dX5_top_231 : decode cX5_top 231 = .ok (.laload, 1) := by decide +kernel
theorem dX5_top_232 : decode cX5_top 232 = .ok (.lconst 0, 1) := by decide +kernel
theorem dX5_top_233 : decode cX5_top 233 = .ok (.lcmp, 1) := by decide +kernel
theorem dX5_top_234 : decode cX5_top 234 = .ok (.ifCond .le 31, 3) := by decide +kernel
theorem dX5_top_237 : decode cX5_top 237 = .ok (.aload_n 0, 1) := by decide +kernel
theorem dX5_top_238 : decode cX5_top 238 = .ok (.getfield 17, 3) := by decide +kernel
theorem dX5_top_241 : decode cX5_top 241 = .ok (.iload 16, 2) := by decide +kernel
theorem dX5_top_243 : decode cX5_top 243 = .ok (.laload, 1) := by decide +kernel
theorem dX5_top_244 : decode cX5_top 244 = .ok (.lload 6, 2) := by decide +kernel
theorem dX5_top_246 : decode cX5_top 246 = .ok (.lcmp, 1) := by decide +kernel
theorem dX5_top_247 : decode cX5_top 247 = .ok (.ifCond .gt 18, 3) := by decide +kernel
theorem dX5_top_250 : decode cX5_top 250 = .ok (.iload_n 2, 1) := by decide +kernel
theorem dX5_top_251 : decode cX5_top 251 = .ok (.iconst (-1), 1) := by decide +kernel
theorem dX5_top_252 : decode cX5_top 252 = .ok (.if_icmp .eq 9, 3) := by decide +kernel
theorem dX5_top_255 : decode cX5_top 255 = .ok (.iload_n 2, 1) := by decide +kernel
theorem dX5_top_256 : decode cX5_top 256 = .ok (.iload 16, 2) := by decide +kernel
theorem dX5_top_258 : decode cX5_top 258 = .ok (.if_icmp .ne 7, 3) := by decide +kernel
theorem dX5_top_261 : decode cX5_top 261 = .ok (.iconst 1, 1) := by decide +kernel
theorem dX5_top_262 : decode cX5_top 262 = .ok (.goto 4, 3) := by decide +kernel
theorem dX5_top_265 : decode cX5_top 265 = .ok (.iconst 0, 1) := by decide +kernel
theorem dX5_top_266 : decode cX5_top 266 = .ok (.istore 18, 2) := by decide +kernel
theorem dX5_top_268 : decode cX5_top 268 = .ok (.iload 18, 2) := by decide +kernel
theorem dX5_top_270 : decode cX5_top 270 = .ok (.ifCond .eq 31, 3) := by decide +kernel
theorem dX5_top_273 : decode cX5_top 273 = .ok (.iload 15, 2) := by decide +kernel
theorem dX5_top_275 : decode cX5_top 275 = .ok (.ifCond .lt 21, 3) := by decide +kernel
theorem dX5_top_278 : decode cX5_top 278 = .ok (.aload_n 0, 1) := by decide +kernel
theorem dX5_top_279 : decode cX5_top 279 = .ok (.getfield 17, 3) := by decide +kernel
theorem dX5_top_282 : decode cX5_top 282 = .ok (.iload 16, 2) := by decide +kernel
theorem dX5_top_284 : decode cX5_top 284 = .ok (.laload, 1) := by decide +kernel
theorem dX5_top_285 : decode cX5_top 285 = .ok (.aload_n 0, 1) := by decide +kernel
theorem dX5_top_286 : decode cX5_top 286 = .ok (.getfield 17, 3) := by decide +kernel
theorem dX5_top_289 : decode cX5_top 289 = .ok (.iload 15, 2) := by decide +kernel
theorem dX5_top_291 : decode cX5_top 291 = .ok (.laload, 1) := by decide +kernel
theorem dX5_top_292 : decode cX5_top 292 = .ok (.lcmp, 1) := by decide +kernel
theorem dX5_top_293 : decode cX5_top 293 = .ok (.ifCond .ge 8, 3) := by decide +kernel
theorem dX5_top_296 : decode cX5_top 296 = .ok (.iload 16, 2) := by decide +kernel
theorem dX5_top_298 : decode cX5_top 298 = .ok (.goto 5, 3) := by decide +kernel
theorem dX5_top_301 : decode cX5_top 301 = .ok (.iload 15, 2) := by decide +kernel
theorem dX5_top_303 : decode cX5_top 303 = .ok (.istore 15, 2) := by decide +kernel
theorem dX5_top_305 : decode cX5_top 305 = .ok (.iinc 16 1, 3) := by decide +kernel
theorem dX5_top_308 : decode cX5_top 308 = .ok (.goto (-164), 3) := by decide +kernel
theorem dX5_top_311 : decode cX5_top 311 = .ok (.iload 15, 2) := by decide +kernel
theorem dX5_top_313 : decode cX5_top 313 = .ok (.ifCond .lt 17, 3) := by decide +kernel
theorem dX5_top_316 : decode cX5_top 316 = .ok (.aload_n 0, 1) := by decide +kernel
theorem dX5_top_317 : decode cX5_top 317 = .ok (.getfield 93, 3) := by decide +kernel
theorem dX5_top_320 : decode cX5_top 320 = .ok (.sipush 400, 3) := by decide +kernel
theorem dX5_top_323 : decode cX5_top 323 = .ok (.if_icmp .ge 7, 3) := by decide +kernel
theorem dX5_top_326 : decode cX5_top 326 = .ok (.iconst 1, 1) := by decide +kernel
theorem dX5_top_327 : decode cX5_top 327 = .ok (.goto 4, 3) := by decide +kernel
theorem dX5_top_330 : decode cX5_top 330 = .ok (.iconst 0, 1) := by decide +kernel
theorem dX5_top_331 : decode cX5_top 331 = .ok (.istore 14, 2) := by decide +kernel
theorem dX5_top_333 : decode cX5_top 333 = .ok (.iload 14, 2) := by decide +kernel
theorem dX5_top_335 : decode cX5_top 335 = .ok (.ifCond .eq 73, 3) := by decide +kernel
theorem dX5_top_338 : decode cX5_top 338 = .ok (.aload_n 0, 1) := by decide +kernel
theorem dX5_top_339 : decode cX5_top 339 = .ok (.getfield 42, 3) := by decide +kernel
theorem dX5_top_342 : decode cX5_top 342 = .ok (.bipush 48, 2) := by decide +kernel
theorem dX5_top_344 : decode cX5_top 344 = .ok (.iload 15, 2) := by decide +kernel
theorem dX5_top_346 : decode cX5_top 346 = .ok (.imul, 1) := by decide +kernel
theorem dX5_top_347 : decode cX5_top 347 = .ok (.iload 15, 2) := by decide +kernel
theorem dX5_top_349 : decode cX5_top 349 = .ok (.iadd, 1) := by decide +kernel
theorem dX5_top_350 : decode cX5_top 350 = .ok (.laload, 1) := by decide +kernel
theorem dX5_top_351 : decode cX5_top 351 = .ok (.lload 9, 2) := by decide +kernel
theorem dX5_top_353 : decode cX5_top 353 = .ok (.lcmp, 1) := by decide +kernel
theorem dX5_top_354 : decode cX5_top 354 = .ok (.ifCond .ge 19, 3) := by decide +kernel
theorem dX5_top_357 : decode cX5_top 357 = .ok (.aload_n 0, 1) := by decide +kernel
theorem dX5_top_358 : decode cX5_top 358 = .ok (.getfield 42, 3) := by decide +kernel
theorem dX5_top_361 : decode cX5_top 361 = .ok (.bipush 48, 2) := by decide +kernel
theorem dX5_top_363 : decode cX5_top 363 = .ok (.iload 15, 2) := by decide +kernel
theorem dX5_top_365 : decode cX5_top 365 = .ok (.imul, 1) := by decide +kernel
theorem dX5_top_366 : decode cX5_top 366 = .ok (.iload 15, 2) := by decide +kernel
theorem dX5_top_368 : decode cX5_top 368 = .ok (.iadd, 1) := by decide +kernel
theorem dX5_top_369 : decode cX5_top 369 = .ok (.laload, 1) := by decide +kernel
theorem dX5_top_370 : decode cX5_top 370 = .ok (.goto 5, 3) := by decide +kernel
theorem dX5_top_373 : decode cX5_top 373 = .ok (.lload 9, 2) := by decide +kernel
theorem dX5_top_375 : decode cX5_top 375 = .ok (.lstore 16, 2) := by decide +kernel
theorem dX5_top_377 : decode cX5_top 377 = .ok (.aload_n 0, 1) := by decide +kernel
theorem dX5_top_378 : decode cX5_top 378 = .ok (.iload 15, 2) := by decide +kernel
theorem dX5_top_380 : decode cX5_top 380 = .ok (.iload_n 1, 1) := by decide +kernel
theorem dX5_top_381 : decode cX5_top 381 = .ok (.lload 16, 2) := by decide +kernel
theorem dX5_top_383 : decode cX5_top 383 = .ok (.lload 6, 2) := by decide +kernel
theorem dX5_top_385 : decode cX5_top 385 = .ok (.invokevirtual 104, 3) := by decide +kernel
theorem dX5_top_388 : decode cX5_top 388 = .ok (.lload 9, 2) := by decide +kernel
theorem dX5_top_390 : decode cX5_top 390 = .ok (.lload 16, 2) := by decide +kernel
theorem dX5_top_392 : decode cX5_top 392 = .ok (.lsub, 1) := by decide +kernel
theorem dX5_top_393 : decode cX5_top 393 = .ok (.lstore 9, 2) := by decide +kernel
theorem dX5_top_395 : decode cX5_top 395 = .ok (.iload 15, 2) := by decide +kernel
theorem dX5_top_397 : decode cX5_top 397 = .ok (.istore 13, 2) := by decide +kernel
theorem dX5_top_399 : decode cX5_top 399 = .ok (.aload_n 0, 1) := by decide +kernel
theorem dX5_top_400 : decode cX5_top 400 = .ok (.getfield 17, 3) := by decide +kernel
theorem dX5_top_403 : decode cX5_top 403 = .ok (.iload 15, 2) := by decide +kernel
theorem dX5_top_405 : decode cX5_top 405 = .ok (.laload, 1) := by decide +kernel
theorem dX5_top_406 : decode cX5_top 406 = .ok (.lstore 11, 2) := by decide +kernel
theorem dX5_top_408 : decode cX5_top 408 = .ok (.goto (-282), 3) := by decide +kernel
theorem dX5_top_411 : decode cX5_top 411 = .ok (.lload 9, 2) := by decide +kernel
theorem dX5_top_413 : decode cX5_top 413 = .ok (.lconst 0, 1) := by decide +kernel
theorem dX5_top_414 : decode cX5_top 414 = .ok (.lcmp, 1) := by decide +kernel
theorem dX5_top_415 : decode cX5_top 415 = .ok (.ifCond .gt 10, 3) := by decide +kernel
theorem dX5_top_418 : decode cX5_top 418 = .ok (.aload_n 0, 1) := by decide +kernel
theorem dX5_top_419 : decode cX5_top 419 = .ok (.invokevirtual 108, 3) := by decide +kernel
theorem dX5_top_422 : decode cX5_top 422 = .ok (.ifCond .ne 11, 3) := by decide +kernel
theorem dX5_top_425 : decode cX5_top 425 = .ok (.aload_n 0, 1) := by decide +kernel
theorem dX5_top_426 : decode cX5_top 426 = .ok (.iload 8, 2) := by decide +kernel
theorem dX5_top_428 : decode cX5_top 428 = .ok (.putfield 93, 3) := by decide +kernel
theorem dX5_top_431 : decode cX5_top 431 = .ok (.iconst (-1), 1) := by decide +kernel
theorem dX5_top_432 : decode cX5_top 432 = .ok (.ireturn, 1) := by decide +kernel
theorem dX5_top_433 : decode cX5_top 433 = .ok (.aload_n 0, 1) := by decide +kernel
theorem dX5_top_434 : decode cX5_top 434 = .ok (.getfield 93, 3) := by decide +kernel
theorem dX5_top_437 : decode cX5_top 437 = .ok (.iload 8, 2) := by decide +kernel
theorem dX5_top_439 : decode cX5_top 439 = .ok (.isub, 1) := by decide +kernel
theorem dX5_top_440 : decode cX5_top 440 = .ok (.ireturn, 1) := by decide +kernel
theorem dX5_whole_0 : decode cX5_whole 0 = .ok (.aload_n 0, 1) := by decide +kernel
theorem dX5_whole_1 : decode cX5_whole 1 = .ok (.iconst 0, 1) := by decide +kernel
theorem dX5_whole_2 : decode cX5_whole 2 = .ok (.putfield 72, 3) := by decide +kernel
theorem dX5_whole_5 : decode cX5_whole 5 = .ok (.aload_n 0, 1) := by decide +kernel
theorem dX5_whole_6 : decode cX5_whole 6 = .ok (.iload_n 1, 1) := by decide +kernel
theorem dX5_whole_7 : decode cX5_whole 7 = .ok (.invokevirtual 79, 3) := by decide +kernel
theorem dX5_whole_10 : decode cX5_whole 10 = .ok (.ireturn, 1) := by decide +kernel
theorem dX5_loss_0 : decode cX5_loss 0 = .ok (.aload_n 0, 1) := by decide +kernel
theorem dX5_loss_1 : decode cX5_loss 1 = .ok (.iconst 0, 1) := by decide +kernel
theorem dX5_loss_2 : decode cX5_loss 2 = .ok (.putfield 72, 3) := by decide +kernel
theorem dX5_loss_5 : decode cX5_loss 5 = .ok (.aload_n 0, 1) := by decide +kernel
theorem dX5_loss_6 : decode cX5_loss 6 = .ok (.iload_n 1, 1) := by decide +kernel
theorem dX5_loss_7 : decode cX5_loss 7 = .ok (.invokevirtual 79, 3) := by decide +kernel
theorem dX5_loss_10 : decode cX5_loss 10 = .ok (.ifCond .ne 7, 3) := by decide +kernel
theorem dX5_loss_13 : decode cX5_loss 13 = .ok (.ldc2_w 91, 3) := by decide +kernel
theorem dX5_loss_16 : decode cX5_loss 16 = .ok (.lreturn, 1) := by decide +kernel
theorem dX5_loss_17 : decode cX5_loss 17 = .ok (.lconst 0, 1) := by decide +kernel
theorem dX5_loss_18 : decode cX5_loss 18 = .ok (.lstore_n 2, 1) := by decide +kernel
theorem dX5_loss_19 : decode cX5_loss 19 = .ok (.iconst 0, 1) := by decide +kernel
theorem dX5_loss_20 : decode cX5_loss 20 = .ok (.istore 4, 2) := by decide +kernel
theorem dX5_loss_22 : decode cX5_loss 22 = .ok (.iload 4, 2) := by decide +kernel
theorem dX5_loss_24 : decode cX5_loss 24 = .ok (.aload_n 0, 1) := by decide +kernel
theorem dX5_loss_25 : decode cX5_loss 25 = .ok (.getfield 93, 3) := by decide +kernel
theorem dX5_loss_28 : decode cX5_loss 28 = .ok (.if_icmp .ge 49, 3) := by decide +kernel
theorem dX5_loss_31 : decode cX5_loss 31 = .ok (.lload_n 2, 1) := by decide +kernel
theorem dX5_loss_32 : decode cX5_loss 32 = .ok (.aload_n 0, 1) := by decide +kernel
theorem dX5_loss_33 : decode cX5_loss 33 = .ok (.getfield 30, 3) := by decide +kernel
theorem dX5_loss_36 : decode cX5_loss 36 = .ok (.iload 4, 2) := by decide +kernel
theorem dX5_loss_38 : decode cX5_loss 38 = .ok (.iaload, 1) := by decide +kernel
theorem dX5_loss_39 : decode cX5_loss 39 = .ok (.iload_n 1, 1) := by decide +kernel
theorem dX5_loss_40 : decode cX5_loss 40 = .ok (.if_icmp .ne 28, 3) := by decide +kernel
theorem dX5_loss_43 : decode cX5_loss 43 = .ok (.aload_n 0, 1) := by decide +kernel
theorem dX5_loss_44 : decode cX5_loss 44 = .ok (.getfield 9, 3) := by decide +kernel
theorem dX5_loss_47 : decode cX5_loss 47 = .ok (.aload_n 0, 1) := by decide +kernel
theorem dX5_loss_48 : decode cX5_loss 48 = .ok (.getfield 33, 3) := by decide +kernel
theorem dX5_loss_51 : decode cX5_loss 51 = .ok (.iload 4, 2) := by decide +kernel
theorem dX5_loss_53 : decode cX5_loss 53 = .ok (.iaload, 1) := by decide +kernel
theorem dX5_loss_54 : decode cX5_loss 54 = .ok (.iaload, 1) := by decide +kernel
theorem dX5_loss_55 : decode cX5_loss 55 = .ok (.ifCond .ne 13, 3) := by decide +kernel
theorem dX5_loss_58 : decode cX5_loss 58 = .ok (.aload_n 0, 1) := by decide +kernel
theorem dX5_loss_59 : decode cX5_loss 59 = .ok (.getfield 36, 3) := by decide +kernel
theorem dX5_loss_62 : decode cX5_loss 62 = .ok (.iload 4, 2) := by decide +kernel
theorem dX5_loss_64 : decode cX5_loss 64 = .ok (.laload, 1) := by decide +kernel
theorem dX5_loss_65 : decode cX5_loss 65 = .ok (.goto 4, 3) := by decide +kernel
theorem dX5_loss_68 : decode cX5_loss 68 = .ok (.lconst 0, 1) := by decide +kernel
theorem dX5_loss_69 : decode cX5_loss 69 = .ok (.ladd, 1) := by decide +kernel
theorem dX5_loss_70 : decode cX5_loss 70 = .ok (.lstore_n 2, 1) := by decide +kernel
theorem dX5_loss_71 : decode cX5_loss 71 = .ok (.iinc 4 1, 3) := by decide +kernel
theorem dX5_loss_74 : decode cX5_loss 74 = .ok (.goto (-52), 3) := by decide +kernel
theorem dX5_loss_77 : decode cX5_loss 77 = .ok (.lload_n 2, 1) := by decide +kernel
theorem dX5_loss_78 : decode cX5_loss 78 = .ok (.lreturn, 1) := by decide +kernel
end
section
set_option maxRecDepth 20000 in
theorem ggX1_isLot_X1_has : GoodIn wsX1_isLot wsX1_has := goodIn_r _ [6, 7, 8, 9, 10, 11, 12, 13, 14, 15] (by decide +kernel) (by decide +kernel)
set_option maxRecDepth 20000 in
theorem gX1_isLot_X1_has : GoodIn wsX1_isLot (wsV RX1 36 RX1 yX1_has wsX1_has) := goodIn_app (goodIn_of _ (by decide +kernel)) ggX1_isLot_X1_has
set_option maxRecDepth 20000 in
theorem ggX1_isDrain_X1_has : GoodIn wsX1_isDrain wsX1_has := goodIn_r _ [6, 7, 8, 9, 10, 11, 12, 13, 14, 15] (by decide +kernel) (by decide +kernel)
set_option maxRecDepth 20000 in
theorem gX1_isDrain_X1_has : GoodIn wsX1_isDrain (wsV RX1 36 RX1 yX1_has wsX1_has) := goodIn_app (goodIn_of _ (by decide +kernel)) ggX1_isDrain_X1_has
set_option maxRecDepth 20000 in
theorem ggX1_canTake_X1_has : GoodIn wsX1_canTake wsX1_has := goodIn_r _ [6, 7, 8, 9, 10, 11, 12, 13, 14, 15] (by decide +kernel) (by decide +kernel)
set_option maxRecDepth 20000 in
theorem gX1_canTake_X1_has : GoodIn wsX1_canTake (wsV RX1 36 RX1 yX1_has wsX1_has) := goodIn_app (goodIn_of _ (by decide +kernel)) ggX1_canTake_X1_has
set_option maxRecDepth 20000 in
theorem ggX1_addLot_X1_add : GoodIn wsX1_addLot wsX1_add := goodIn_r _ [9, 10, 11, 12, 13, 14, 15, 16, 17, 18, 19, 20] (by decide +kernel) (by decide +kernel)
set_option maxRecDepth 20000 in
theorem gX1_addLot_X1_add : GoodIn wsX1_addLot (wsV RX1 40 RX1 yX1_add wsX1_add) := goodIn_app (goodIn_of _ (by decide +kernel)) ggX1_addLot_X1_add
set_option maxRecDepth 20000 in
theorem ggX2_enter_X2_insert : GoodIn wsX2_enter wsX2_insert := goodIn_r _ [9, 1, 2, 3, 4, 10, 11, 12, 13] (by decide +kernel) (by decide +kernel)
set_option maxRecDepth 20000 in
theorem gX2_enter_X2_insert : GoodIn wsX2_enter (wsV RX2 26 RX2 yX2_insert wsX2_insert) := goodIn_app (goodIn_of _ (by decide +kernel)) ggX2_enter_X2_insert
set_option maxRecDepth 20000 in
theorem ggX3_sumOfLots_X3_unitsOf : GoodIn wsX3_sumOfLots wsX3_unitsOf := goodIn_r _ [7, 8, 9, 10, 11, 12, 13, 14, 15, 16] (by decide +kernel) (by decide +kernel)
set_option maxRecDepth 20000 in
theorem gX3_sumOfLots_X3_unitsOf : GoodIn wsX3_sumOfLots (wsV RX3 43 RX3 yX3_unitsOf wsX3_unitsOf) := goodIn_app (goodIn_of _ (by decide +kernel)) ggX3_sumOfLots_X3_unitsOf
set_option maxRecDepth 20000 in
theorem ggX3_admit_X1_isLot : GoodIn wsX3_admit wsX1_isLot := goodIn_r _ [10, 11, 12, 13, 14, 9, 15, 16, 25, 26, 27, 28, 29, 30, 31, 32] (by decide +kernel) (by decide +kernel)
set_option maxRecDepth 20000 in
theorem gX3_admit_X1_isLot : GoodIn wsX3_admit (wsV RX3 47 RX1 yX1_isLot wsX1_isLot) := goodIn_app (goodIn_of _ (by decide +kernel)) ggX3_admit_X1_isLot
set_option maxRecDepth 20000 in
theorem ggX3_replay_X3_clear : GoodIn wsX3_replay wsX3_clear := goodIn_r _ [10, 11, 12, 13, 14, 15, 16, 17, 18, 19, 20, 21, 22, 23, 24, 9, 25, 26, 27, 28, 29, 30, 31, 32, 33, 34, 35, 36, 37, 70, 71, 72, 73, 74, 75, 76, 77, 78, 79, 80, 81, 82, 83, 84, 85] (by decide +kernel) (by decide +kernel)
set_option maxRecDepth 20000 in
theorem gX3_replay_X3_clear : GoodIn wsX3_replay (wsV RX3 54 RX3 yX3_clear wsX3_clear) := goodIn_app (goodIn_of _ (by decide +kernel)) ggX3_replay_X3_clear
set_option maxRecDepth 20000 in
theorem ggX3_replay_X3_move : GoodIn wsX3_replay wsX3_move := goodIn_r _ [41, 16, 17, 42, 11, 15, 13, 12, 14, 43, 44, 45, 9, 46, 47, 48, 49, 50, 51, 52, 53, 54, 55, 56, 57, 58, 59, 60, 61, 62, 30, 63, 32, 33, 34, 35, 36, 37, 70, 71, 72, 73, 74, 75, 76, 77, 78, 79, 80, 81, 82, 83, 84, 85] (by decide +kernel) (by decide +kernel)
set_option maxRecDepth 20000 in
theorem gX3_replay_X3_move : GoodIn wsX3_replay (wsV RX3 71 RX3 yX3_move wsX3_move) := goodIn_app (goodIn_of _ (by decide +kernel)) ggX3_replay_X3_move
set_option maxRecDepth 20000 in
theorem ggX3_clear_J7_fill_d0a16 : GoodIn wsX3_clear wsJ7_fill_d0a16 := goodIn_r _ [11] (by decide +kernel) (by decide +kernel)
set_option maxRecDepth 20000 in
theorem gX3_clear_J7_fill_d0a16 : GoodIn wsX3_clear (va_wsS RX3 75 yJ7_fill_d0a16 wsJ7_fill_d0a16) := goodIn_app (goodIn_of _ (by decide +kernel)) ggX3_clear_J7_fill_d0a16
set_option maxRecDepth 20000 in
theorem ggX3_clear_X3_admit : GoodIn wsX3_clear wsX3_admit := goodIn_r _ [16, 6, 1, 17, 2, 5, 18, 19, 20, 21, 22, 23, 24, 25, 26, 27, 28, 29, 30, 31, 32, 33, 34, 35, 36, 37, 38, 39, 40, 41, 42, 43, 44] (by decide +kernel) (by decide +kernel)
set_option maxRecDepth 20000 in
theorem gX3_clear_X3_admit : GoodIn wsX3_clear (wsV RX3 81 RX3 yX3_admit wsX3_admit) := goodIn_app (goodIn_of _ (by decide +kernel)) ggX3_clear_X3_admit
set_option maxRecDepth 20000 in
theorem ggX3_move_X3_unitsIn : GoodIn wsX3_move wsX3_unitsIn := goodIn_r _ [13, 7, 6, 38, 39, 40, 41, 42, 43, 44, 45] (by decide +kernel) (by decide +kernel)
set_option maxRecDepth 20000 in
theorem gX3_move_X3_unitsIn : GoodIn wsX3_move (wsV RX3 85 RX3 yX3_unitsIn wsX3_unitsIn) := goodIn_app (goodIn_of _ (by decide +kernel)) ggX3_move_X3_unitsIn
set_option maxRecDepth 20000 in
theorem ggX3_move_X3_part : GoodIn wsX3_move wsX3_part := goodIn_r _ [17, 1, 2, 3, 18, 19, 20, 21, 12, 22, 4, 23, 24, 25, 26, 38, 39, 40, 41, 42, 43, 44, 45, 46, 47, 48, 49, 50, 51, 52, 53] (by decide +kernel) (by decide +kernel)
set_option maxRecDepth 20000 in
theorem gX3_move_X3_part : GoodIn wsX3_move (wsV RX3 89 RX3 yX3_part wsX3_part) := goodIn_app (goodIn_of _ (by decide +kernel)) ggX3_move_X3_part
set_option maxRecDepth 20000 in
theorem ggX3_move_X1_isDrain : GoodIn wsX3_move wsX1_isDrain := goodIn_r _ [31, 32, 33, 34, 35, 30, 36, 37, 46, 47, 48, 49, 50, 51, 52, 53] (by decide +kernel) (by decide +kernel)
set_option maxRecDepth 20000 in
theorem gX3_move_X1_isDrain : GoodIn wsX3_move (wsV RX3 93 RX1 yX1_isDrain wsX1_isDrain) := goodIn_app (goodIn_of _ (by decide +kernel)) ggX3_move_X1_isDrain
set_option maxRecDepth 20000 in
theorem ggX3_part_X3_unitsOf : GoodIn wsX3_part wsX3_unitsOf := goodIn_r _ [9, 10, 15, 16, 17, 18, 19, 20, 21, 22] (by decide +kernel) (by decide +kernel)
set_option maxRecDepth 20000 in
theorem gX3_part_X3_unitsOf : GoodIn wsX3_part (wsV RX3 43 RX3 yX3_unitsOf wsX3_unitsOf) := goodIn_app (goodIn_of _ (by decide +kernel)) ggX3_part_X3_unitsOf
set_option maxRecDepth 20000 in
theorem ggX3_part_X3_greatestRest : GoodIn wsX3_part wsX3_greatestRest := goodIn_r _ [14, 1, 2, 4, 15, 16, 17, 18, 19, 20, 21, 22, 23, 24, 25, 26, 27, 28, 29, 30] (by decide +kernel) (by decide +kernel)
set_option maxRecDepth 20000 in
theorem gX3_part_X3_greatestRest : GoodIn wsX3_part (wsV RX3 96 RX3 yX3_greatestRest wsX3_greatestRest) := goodIn_app (goodIn_of _ (by decide +kernel)) ggX3_part_X3_greatestRest
set_option maxRecDepth 20000 in
theorem ggX3_countOtherNodes_X3_differs : GoodIn wsX3_countOtherNodes wsX3_differs := goodIn_r _ [7, 1, 2, 8, 9, 10, 6, 11, 12, 13, 14, 15, 16, 17, 18, 19, 20, 21, 22, 23, 24, 25, 26, 27, 28] (by decide +kernel) (by decide +kernel)
set_option maxRecDepth 20000 in
theorem gX3_countOtherNodes_X3_differs : GoodIn wsX3_countOtherNodes (wsV RX3 100 RX3 yX3_differs wsX3_differs) := goodIn_app (goodIn_of _ (by decide +kernel)) ggX3_countOtherNodes_X3_differs
set_option maxRecDepth 20000 in
theorem ggX3_differs_X3_unitsOf : GoodIn wsX3_differs wsX3_unitsOf := goodIn_r _ [7, 8, 9, 10, 11, 12, 13, 14, 15, 16] (by decide +kernel) (by decide +kernel)
set_option maxRecDepth 20000 in
theorem gX3_differs_X3_unitsOf : GoodIn wsX3_differs (wsV RX3 43 RX3 yX3_unitsOf wsX3_unitsOf) := goodIn_app (goodIn_of _ (by decide +kernel)) ggX3_differs_X3_unitsOf
end
section
set_option maxRecDepth 20000 in
theorem ggX4_init_X1_init : GoodIn wsX4_init wsX1_init := goodIn_r _ [23, 24, 2, 3, 25, 26, 27, 28, 29, 30, 31, 32, 33, 60, 61, 62, 63, 64, 65, 66, 67] (by decide +kernel) (by decide +kernel)
set_option maxRecDepth 20000 in
theorem gX4_init_X1_init_n9 : GoodIn wsX4_init (wsX1_init) := ggX4_init_X1_init
set_option maxRecDepth 20000 in
theorem ggX4_init_X0_init : GoodIn wsX4_init wsX0_init := goodIn_r _ [35, 36, 2, 3, 25, 37, 38, 27, 39, 40, 41, 74, 75, 76, 77, 78, 79] (by decide +kernel) (by decide +kernel)
set_option maxRecDepth 20000 in
theorem gX4_init_X0_init_n18 : GoodIn wsX4_init (wsX0_init) := ggX4_init_X0_init
set_option maxRecDepth 20000 in
theorem ggX4_init_X2_init : GoodIn wsX4_init wsX2_init := goodIn_r _ [43, 44, 2, 3, 25, 45, 27, 46, 47, 80, 81, 82, 83] (by decide +kernel) (by decide +kernel)
set_option maxRecDepth 20000 in
theorem gX4_init_X2_init_n25 : GoodIn wsX4_init (wsX2_init) := ggX4_init_X2_init
set_option maxRecDepth 20000 in
theorem ggX4_init_X3_init : GoodIn wsX4_init wsX3_init := goodIn_r _ [50, 51, 2, 3, 27, 52, 53, 54, 55, 56, 57, 58, 59, 84, 85, 86, 87, 88, 89, 90, 91] (by decide +kernel) (by decide +kernel)
set_option maxRecDepth 20000 in
theorem gX4_init_X3_init : GoodIn wsX4_init (wsX3_init) := ggX4_init_X3_init
set_option maxRecDepth 20000 in
theorem ggX4_lot_X4_isAmount : GoodIn wsX4_lot wsX4_isAmount := goodIn_r _ [6, 7] (by decide +kernel) (by decide +kernel)
set_option maxRecDepth 20000 in
theorem gX4_lot_X4_isAmount : GoodIn wsX4_lot (va_wsS RX4 46 yX4_isAmount wsX4_isAmount) := goodIn_app (goodIn_of _ (by decide +kernel)) ggX4_lot_X4_isAmount
set_option maxRecDepth 20000 in
theorem ggX4_lot_X4_isDay : GoodIn wsX4_lot wsX4_isDay := goodIn_r _ [10, 11] (by decide +kernel) (by decide +kernel)
set_option maxRecDepth 20000 in
theorem gX4_lot_X4_isDay : GoodIn wsX4_lot (va_wsS RX4 50 yX4_isDay wsX4_isDay) := goodIn_app (goodIn_of _ (by decide +kernel)) ggX4_lot_X4_isDay
set_option maxRecDepth 20000 in
theorem ggX4_lot_X1_addLot : GoodIn wsX4_lot wsX1_addLot := goodIn_r _ [16, 17, 18, 19, 20, 21, 22, 23, 15, 24, 25, 26, 27, 52, 53, 54, 55, 56, 57, 58, 59] (by decide +kernel) (by decide +kernel)
set_option maxRecDepth 20000 in
theorem gX4_lot_X1_addLot : GoodIn wsX4_lot (wsV RX4 53 RX1 yX1_addLot wsX1_addLot) := goodIn_app (goodIn_of _ (by decide +kernel)) ggX4_lot_X1_addLot
set_option maxRecDepth 20000 in
theorem ggX4_lot_X3_admit : GoodIn wsX4_lot wsX3_admit := goodIn_r _ [32, 33, 34, 35, 36, 37, 38, 39, 40, 15, 41, 26, 42, 43, 44, 45, 25, 60, 61, 62, 63, 64, 65, 66, 67, 52, 53, 54, 55, 56, 57, 58, 59] (by decide +kernel) (by decide +kernel)
set_option maxRecDepth 20000 in
theorem gX4_lot_X3_admit : GoodIn wsX4_lot (wsV RX4 57 RX3 yX3_admit wsX3_admit) := goodIn_app (goodIn_of _ (by decide +kernel)) ggX4_lot_X3_admit
set_option maxRecDepth 20000 in
theorem ggX4_thing_X1_add : GoodIn wsX4_thing wsX1_add := goodIn_r _ [6, 7, 8, 9, 16, 17, 18, 19, 20, 21, 22, 23] (by decide +kernel) (by decide +kernel)
set_option maxRecDepth 20000 in
theorem gX4_thing_X1_add : GoodIn wsX4_thing (wsV RX4 61 RX1 yX1_add wsX1_add) := goodIn_app (goodIn_of _ (by decide +kernel)) ggX4_thing_X1_add
set_option maxRecDepth 20000 in
theorem ggX4_left_X1_has : GoodIn wsX4_left wsX1_has := goodIn_r _ [8, 9, 23, 24, 25, 26, 27, 28, 29, 30] (by decide +kernel) (by decide +kernel)
set_option maxRecDepth 20000 in
theorem gX4_left_X1_has : GoodIn wsX4_left (wsV RX4 65 RX1 yX1_has wsX1_has) := goodIn_app (goodIn_of _ (by decide +kernel)) ggX4_left_X1_has
set_option maxRecDepth 20000 in
theorem ggX4_left_X3_unitsIn : GoodIn wsX4_left wsX3_unitsIn := goodIn_r _ [14, 15, 16, 31, 32, 33, 34, 35, 36, 37, 38] (by decide +kernel) (by decide +kernel)
set_option maxRecDepth 20000 in
theorem gX4_left_X3_unitsIn : GoodIn wsX4_left (wsV RX4 110 RX3 yX3_unitsIn wsX3_unitsIn) := goodIn_app (goodIn_of _ (by decide +kernel)) ggX4_left_X3_unitsIn
set_option maxRecDepth 20000 in
theorem ggX4_share_X1_has : GoodIn wsX4_share wsX1_has := goodIn_r _ [8, 9, 38, 39, 40, 41, 42, 43, 44, 45] (by decide +kernel) (by decide +kernel)
set_option maxRecDepth 20000 in
theorem gX4_share_X1_has : GoodIn wsX4_share (wsV RX4 65 RX1 yX1_has wsX1_has) := goodIn_app (goodIn_of _ (by decide +kernel)) ggX4_share_X1_has
set_option maxRecDepth 20000 in
theorem ggX4_share_X1_isLot : GoodIn wsX4_share wsX1_isLot := goodIn_r _ [13, 14, 15, 5, 6, 7, 8, 9, 38, 39, 40, 41, 42, 43, 44, 45] (by decide +kernel) (by decide +kernel)
set_option maxRecDepth 20000 in
theorem gX4_share_X1_isLot : GoodIn wsX4_share (wsV RX4 82 RX1 yX1_isLot wsX1_isLot) := goodIn_app (goodIn_of _ (by decide +kernel)) ggX4_share_X1_isLot
set_option maxRecDepth 20000 in
theorem ggX4_share_X3_unitsOf : GoodIn wsX4_share wsX3_unitsOf := goodIn_r _ [20, 21, 46, 47, 48, 49, 50, 51, 52, 53] (by decide +kernel) (by decide +kernel)
set_option maxRecDepth 20000 in
theorem gX4_share_X3_unitsOf : GoodIn wsX4_share (wsV RX4 116 RX3 yX3_unitsOf wsX3_unitsOf) := goodIn_app (goodIn_of _ (by decide +kernel)) ggX4_share_X3_unitsOf
set_option maxRecDepth 20000 in
theorem ggX4_share_X3_unitsIn : GoodIn wsX4_share wsX3_unitsIn := goodIn_r _ [25, 26, 27, 46, 47, 48, 49, 50, 51, 52, 53] (by decide +kernel) (by decide +kernel)
set_option maxRecDepth 20000 in
theorem gX4_share_X3_unitsIn : GoodIn wsX4_share (wsV RX4 110 RX3 yX3_unitsIn wsX3_unitsIn) := goodIn_app (goodIn_of _ (by decide +kernel)) ggX4_share_X3_unitsIn
set_option maxRecDepth 20000 in
theorem ggX4_share_X4_greatestDivisor : GoodIn wsX4_share wsX4_greatestDivisor := goodIn_r _ [31] (by decide +kernel) (by decide +kernel)
set_option maxRecDepth 20000 in
theorem gX4_share_X4_greatestDivisor : GoodIn wsX4_share (va_wsS RX4 120 yX4_greatestDivisor wsX4_greatestDivisor) := goodIn_app (goodIn_of _ (by decide +kernel)) ggX4_share_X4_greatestDivisor
set_option maxRecDepth 20000 in
theorem ggX4_back_X1_has : GoodIn wsX4_back wsX1_has := goodIn_r _ [8, 9, 22, 23, 24, 25, 26, 27, 28, 29] (by decide +kernel) (by decide +kernel)
set_option maxRecDepth 20000 in
theorem gX4_back_X1_has : GoodIn wsX4_back (wsV RX4 65 RX1 yX1_has wsX1_has) := goodIn_app (goodIn_of _ (by decide +kernel)) ggX4_back_X1_has
set_option maxRecDepth 20000 in
theorem ggX4_back_X3_hasReached : GoodIn wsX4_back wsX3_hasReached := goodIn_r _ [14, 15, 30, 31, 32, 33, 34, 35, 36, 37] (by decide +kernel) (by decide +kernel)
set_option maxRecDepth 20000 in
theorem gX4_back_X3_hasReached : GoodIn wsX4_back (wsV RX4 125 RX3 yX3_hasReached wsX3_hasReached) := goodIn_app (goodIn_of _ (by decide +kernel)) ggX4_back_X3_hasReached
set_option maxRecDepth 20000 in
theorem ggX4_forward_X1_isLot : GoodIn wsX4_forward wsX1_isLot := goodIn_r _ [8, 9, 10, 11, 12, 7, 13, 14, 31, 32, 33, 34, 35, 36, 37, 38] (by decide +kernel) (by decide +kernel)
set_option maxRecDepth 20000 in
theorem gX4_forward_X1_isLot : GoodIn wsX4_forward (wsV RX4 82 RX1 yX1_isLot wsX1_isLot) := goodIn_app (goodIn_of _ (by decide +kernel)) ggX4_forward_X1_isLot
set_option maxRecDepth 20000 in
theorem ggX4_forward_X1_canTake : GoodIn wsX4_forward wsX1_canTake := goodIn_r _ [18, 9, 10, 11, 12, 7, 13, 14, 31, 32, 33, 34, 35, 36, 37, 38] (by decide +kernel) (by decide +kernel)
set_option maxRecDepth 20000 in
theorem gX4_forward_X1_canTake : GoodIn wsX4_forward (wsV RX4 129 RX1 yX1_canTake wsX1_canTake) := goodIn_app (goodIn_of _ (by decide +kernel)) ggX4_forward_X1_canTake
set_option maxRecDepth 20000 in
theorem ggX4_forward_X3_hasReached : GoodIn wsX4_forward wsX3_hasReached := goodIn_r _ [23, 24, 39, 40, 41, 42, 43, 44, 45, 46] (by decide +kernel) (by decide +kernel)
set_option maxRecDepth 20000 in
theorem gX4_forward_X3_hasReached : GoodIn wsX4_forward (wsV RX4 125 RX3 yX3_hasReached wsX3_hasReached) := goodIn_app (goodIn_of _ (by decide +kernel)) ggX4_forward_X3_hasReached
set_option maxRecDepth 20000 in
theorem ggX4_place_X1_canTake : GoodIn wsX4_place wsX1_canTake := goodIn_r _ [7, 8, 9, 10, 11, 6, 12, 13, 20, 21, 22, 23, 24, 25, 26, 27] (by decide +kernel) (by decide +kernel)
set_option maxRecDepth 20000 in
theorem gX4_place_X1_canTake : GoodIn wsX4_place (wsV RX4 129 RX1 yX1_canTake wsX1_canTake) := goodIn_app (goodIn_of _ (by decide +kernel)) ggX4_place_X1_canTake
set_option maxRecDepth 20000 in
theorem ggX4_recall_X1_isLot : GoodIn wsX4_recall wsX1_isLot := goodIn_r _ [11, 12, 13, 14, 15, 10, 16, 17, 56, 57, 58, 59, 60, 61, 62, 63] (by decide +kernel) (by decide +kernel)
set_option maxRecDepth 20000 in
theorem gX4_recall_X1_isLot : GoodIn wsX4_recall (wsV RX4 82 RX1 yX1_isLot wsX1_isLot) := goodIn_app (goodIn_of _ (by decide +kernel)) ggX4_recall_X1_isLot
set_option maxRecDepth 20000 in
theorem ggX4_recall_X1_canTake : GoodIn wsX4_recall wsX1_canTake := goodIn_r _ [21, 12, 13, 14, 15, 10, 16, 17, 56, 57, 58, 59, 60, 61, 62, 63] (by decide +kernel) (by decide +kernel)
set_option maxRecDepth 20000 in
theorem gX4_recall_X1_canTake : GoodIn wsX4_recall (wsV RX4 129 RX1 yX1_canTake wsX1_canTake) := goodIn_app (goodIn_of _ (by decide +kernel)) ggX4_recall_X1_canTake
set_option maxRecDepth 20000 in
theorem ggX4_recall_X3_hasReached : GoodIn wsX4_recall wsX3_hasReached := goodIn_r _ [26, 27, 64, 65, 66, 67, 68, 69, 70, 71] (by decide +kernel) (by decide +kernel)
set_option maxRecDepth 20000 in
theorem gX4_recall_X3_hasReached : GoodIn wsX4_recall (wsV RX4 125 RX3 yX3_hasReached wsX3_hasReached) := goodIn_app (goodIn_of _ (by decide +kernel)) ggX4_recall_X3_hasReached
set_option maxRecDepth 20000 in
theorem ggX4_recall_X3_unitsOf : GoodIn wsX4_recall wsX3_unitsOf := goodIn_r _ [31, 32, 64, 65, 66, 67, 68, 69, 70, 71] (by decide +kernel) (by decide +kernel)
set_option maxRecDepth 20000 in
theorem gX4_recall_X3_unitsOf : GoodIn wsX4_recall (wsV RX4 116 RX3 yX3_unitsOf wsX3_unitsOf) := goodIn_app (goodIn_of _ (by decide +kernel)) ggX4_recall_X3_unitsOf
set_option maxRecDepth 20000 in
theorem ggX4_recall_X2_enter : GoodIn wsX4_recall wsX2_enter := goodIn_r _ [37, 38, 39, 40, 41, 42, 43, 44, 36, 45, 52, 53, 54, 55] (by decide +kernel) (by decide +kernel)
set_option maxRecDepth 20000 in
theorem gX4_recall_X2_enter : GoodIn wsX4_recall (wsV RX4 137 RX2 yX2_enter wsX2_enter) := goodIn_app (goodIn_of _ (by decide +kernel)) ggX4_recall_X2_enter
set_option maxRecDepth 20000 in
theorem ggX4_hold_X1_has : GoodIn wsX4_hold wsX1_has := goodIn_r _ [7, 8, 15, 16, 17, 18, 19, 20, 21, 22] (by decide +kernel) (by decide +kernel)
set_option maxRecDepth 20000 in
theorem gX4_hold_X1_has : GoodIn wsX4_hold (wsV RX4 65 RX1 yX1_has wsX1_has) := goodIn_app (goodIn_of _ (by decide +kernel)) ggX4_hold_X1_has
set_option maxRecDepth 20000 in
theorem ggX4_correct_X4_isDay : GoodIn wsX4_correct wsX4_isDay := goodIn_r _ [14, 15] (by decide +kernel) (by decide +kernel)
set_option maxRecDepth 20000 in
theorem gX4_correct_X4_isDay : GoodIn wsX4_correct (va_wsS RX4 50 yX4_isDay wsX4_isDay) := goodIn_app (goodIn_of _ (by decide +kernel)) ggX4_correct_X4_isDay
set_option maxRecDepth 20000 in
theorem ggX4_correct_X3_replay : GoodIn wsX4_correct wsX3_replay := goodIn_r _ [20, 21, 22, 23, 24, 25, 26, 27, 28, 19, 29, 30, 31, 32, 33, 34, 35, 36, 37, 38, 39, 40, 41, 42, 43, 44, 45, 46, 47, 48, 49, 50, 51, 52, 53, 54, 55, 56, 57, 58, 59, 60, 61, 62, 63, 64, 65, 66, 67, 68, 69, 70, 71, 72, 73, 74, 75, 76, 77, 78, 79, 80, 81, 82, 101, 102, 103, 104, 105, 106, 115, 116, 117, 118, 119, 120, 121, 122, 107, 108, 109, 110, 111, 112, 113, 114] (by decide +kernel) (by decide +kernel)
set_option maxRecDepth 20000 in
theorem gX4_correct_X3_replay : GoodIn wsX4_correct (wsV RX4 166 RX3 yX3_replay wsX3_replay) := goodIn_app (goodIn_of _ (by decide +kernel)) ggX4_correct_X3_replay
set_option maxRecDepth 20000 in
theorem ggX4_correct_X4_takeTrial : GoodIn wsX4_correct wsX4_takeTrial := goodIn_r _ [86, 10, 9, 95, 96, 97, 98, 99, 100] (by decide +kernel) (by decide +kernel)
set_option maxRecDepth 20000 in
theorem gX4_correct_X4_takeTrial : GoodIn wsX4_correct (wsV RX4 170 RX4 yX4_takeTrial wsX4_takeTrial) := goodIn_app (goodIn_of _ (by decide +kernel)) ggX4_correct_X4_takeTrial
set_option maxRecDepth 20000 in
theorem ggX4_correct_X3_countOtherNodes : GoodIn wsX4_correct wsX3_countOtherNodes := goodIn_r _ [90, 35, 36, 91, 92, 93, 19, 94, 71, 72, 73, 74, 30, 115, 116, 117, 118, 119, 120, 121, 122, 107, 108, 109, 110, 111, 112, 113, 114] (by decide +kernel) (by decide +kernel)
set_option maxRecDepth 20000 in
theorem gX4_correct_X3_countOtherNodes : GoodIn wsX4_correct (wsV RX4 173 RX3 yX3_countOtherNodes wsX3_countOtherNodes) := goodIn_app (goodIn_of _ (by decide +kernel)) ggX4_correct_X3_countOtherNodes
set_option maxRecDepth 20000 in
theorem ggX4_top_X1_canTake : GoodIn wsX4_top wsX1_canTake := goodIn_r _ [8, 9, 10, 11, 12, 7, 13, 14, 149, 150, 151, 152, 153, 154, 155, 156] (by decide +kernel) (by decide +kernel)
set_option maxRecDepth 20000 in
theorem gX4_top_X1_canTake : GoodIn wsX4_top (wsV RX4 129 RX1 yX1_canTake wsX1_canTake) := goodIn_app (goodIn_of _ (by decide +kernel)) ggX4_top_X1_canTake
set_option maxRecDepth 20000 in
theorem ggX4_top_X1_isDrain : GoodIn wsX4_top wsX1_isDrain := goodIn_r _ [18, 9, 10, 11, 12, 7, 13, 14, 149, 150, 151, 152, 153, 154, 155, 156] (by decide +kernel) (by decide +kernel)
set_option maxRecDepth 20000 in
theorem gX4_top_X1_isDrain : GoodIn wsX4_top (wsV RX4 85 RX1 yX1_isDrain wsX1_isDrain) := goodIn_app (goodIn_of _ (by decide +kernel)) ggX4_top_X1_isDrain
set_option maxRecDepth 20000 in
theorem ggX4_top_X4_isAmount : GoodIn wsX4_top wsX4_isAmount := goodIn_r _ [22, 23] (by decide +kernel) (by decide +kernel)
set_option maxRecDepth 20000 in
theorem gX4_top_X4_isAmount : GoodIn wsX4_top (va_wsS RX4 46 yX4_isAmount wsX4_isAmount) := goodIn_app (goodIn_of _ (by decide +kernel)) ggX4_top_X4_isAmount
set_option maxRecDepth 20000 in
theorem ggX4_top_X1_isLot : GoodIn wsX4_top wsX1_isLot := goodIn_r _ [27, 9, 10, 11, 12, 7, 13, 14, 149, 150, 151, 152, 153, 154, 155, 156] (by decide +kernel) (by decide +kernel)
set_option maxRecDepth 20000 in
theorem gX4_top_X1_isLot : GoodIn wsX4_top (wsV RX4 82 RX1 yX1_isLot wsX1_isLot) := goodIn_app (goodIn_of _ (by decide +kernel)) ggX4_top_X1_isLot
set_option maxRecDepth 20000 in
theorem ggX4_top_X0_greatestDay : GoodIn wsX4_top wsX0_greatestDay := goodIn_r _ [32, 33, 34, 35, 143, 144, 145, 146, 147, 148] (by decide +kernel) (by decide +kernel)
set_option maxRecDepth 20000 in
theorem gX4_top_X0_greatestDay : GoodIn wsX4_top (wsV RX4 177 RX0 yX0_greatestDay wsX0_greatestDay) := goodIn_app (goodIn_of _ (by decide +kernel)) ggX4_top_X0_greatestDay
set_option maxRecDepth 20000 in
theorem ggX4_top_X4_countTopFlows : GoodIn wsX4_top wsX4_countTopFlows := goodIn_r _ [39, 1, 40, 41, 42, 43, 44, 45, 46, 47, 48, 21, 49, 50, 51, 52, 53, 54, 55, 56, 57, 58, 59, 137, 138, 139, 140, 141, 142, 149, 150, 151, 152, 153, 154, 155, 156, 157, 158, 159, 160, 161, 162, 163, 164] (by decide +kernel) (by decide +kernel)
set_option maxRecDepth 20000 in
theorem gX4_top_X4_countTopFlows : GoodIn wsX4_top (wsV RX4 181 RX4 yX4_countTopFlows wsX4_countTopFlows) := goodIn_app (goodIn_of _ (by decide +kernel)) ggX4_top_X4_countTopFlows
set_option maxRecDepth 20000 in
theorem ggX4_top_X4_tellTopFlows : GoodIn wsX4_top wsX4_tellTopFlows := goodIn_r _ [63, 1, 40, 41, 42, 43, 44, 45, 46, 47, 48, 21, 49, 50, 51, 52, 53, 54, 55, 56, 57, 58, 59, 64, 65, 66, 67, 2, 3, 68, 24, 25, 26, 7, 27, 9, 10, 11, 12, 13, 14, 69, 70, 71, 31, 72, 33, 34, 35, 73, 74, 75, 76, 77, 78, 79, 80, 81, 82, 83, 84, 85, 86, 87, 88, 89, 90, 91, 92, 93, 94, 95, 96, 97, 16, 17, 18, 98, 99, 100, 101, 102, 103, 104, 105, 106, 107, 108, 109, 110, 111, 112, 113, 114, 115, 116, 117, 118, 119, 120, 121, 122, 123, 124, 125, 126, 127, 128, 129, 130, 131, 132, 133, 134, 135, 136, 137, 138, 139, 140, 141, 142, 149, 150, 151, 152, 153, 154, 155, 156, 157, 158, 159, 160, 161, 162, 163, 164, 143, 144, 145, 146, 147, 148] (by decide +kernel) (by decide +kernel)
set_option maxRecDepth 20000 in
theorem gX4_top_X4_tellTopFlows : GoodIn wsX4_top (wsV RX4 185 RX4 yX4_tellTopFlows wsX4_tellTopFlows) := goodIn_app (goodIn_of _ (by decide +kernel)) ggX4_top_X4_tellTopFlows
set_option maxRecDepth 20000 in
theorem ggX4_whole_X1_has : GoodIn wsX4_whole wsX1_has := goodIn_r _ [7, 8, 33, 34, 35, 36, 37, 38, 39, 40] (by decide +kernel) (by decide +kernel)
set_option maxRecDepth 20000 in
theorem gX4_whole_X1_has : GoodIn wsX4_whole (wsV RX4 65 RX1 yX1_has wsX1_has) := goodIn_app (goodIn_of _ (by decide +kernel)) ggX4_whole_X1_has
set_option maxRecDepth 20000 in
theorem ggX4_whole_X3_sumOfLots : GoodIn wsX4_whole wsX3_sumOfLots := goodIn_r _ [13, 14, 15, 16, 17, 18, 12, 19, 20, 41, 42, 43, 44, 45, 46, 47, 48, 33, 34, 35, 36, 37, 38, 39, 40] (by decide +kernel) (by decide +kernel)
set_option maxRecDepth 20000 in
theorem gX4_whole_X3_sumOfLots : GoodIn wsX4_whole (wsV RX4 189 RX3 yX3_sumOfLots wsX3_sumOfLots) := goodIn_app (goodIn_of _ (by decide +kernel)) ggX4_whole_X3_sumOfLots
set_option maxRecDepth 20000 in
theorem ggX4_whole_X3_unitsIn : GoodIn wsX4_whole wsX3_unitsIn := goodIn_r _ [24, 25, 26, 41, 42, 43, 44, 45, 46, 47, 48] (by decide +kernel) (by decide +kernel)
set_option maxRecDepth 20000 in
theorem gX4_whole_X3_unitsIn : GoodIn wsX4_whole (wsV RX4 110 RX3 yX3_unitsIn wsX3_unitsIn) := goodIn_app (goodIn_of _ (by decide +kernel)) ggX4_whole_X3_unitsIn
set_option maxRecDepth 20000 in
theorem ggX4_loss_X1_has : GoodIn wsX4_loss wsX1_has := goodIn_r _ [9, 10, 25, 26, 27, 28, 29, 30, 31, 32] (by decide +kernel) (by decide +kernel)
set_option maxRecDepth 20000 in
theorem gX4_loss_X1_has : GoodIn wsX4_loss (wsV RX4 65 RX1 yX1_has wsX1_has) := goodIn_app (goodIn_of _ (by decide +kernel)) ggX4_loss_X1_has
set_option maxRecDepth 20000 in
theorem ggX4_tell_X1_isLot : GoodIn wsX4_tell wsX1_isLot := goodIn_r _ [11, 12, 13, 14, 15, 10, 16, 17, 106, 107, 108, 109, 110, 111, 112, 113] (by decide +kernel) (by decide +kernel)
set_option maxRecDepth 20000 in
theorem gX4_tell_X1_isLot : GoodIn wsX4_tell (wsV RX4 82 RX1 yX1_isLot wsX1_isLot) := goodIn_app (goodIn_of _ (by decide +kernel)) ggX4_tell_X1_isLot
set_option maxRecDepth 20000 in
theorem ggX4_tell_X0_turnFor : GoodIn wsX4_tell wsX0_turnFor := goodIn_r _ [22, 23, 24, 25, 114, 115, 116, 117, 118, 119] (by decide +kernel) (by decide +kernel)
set_option maxRecDepth 20000 in
theorem gX4_tell_X0_turnFor : GoodIn wsX4_tell (wsV RX4 200 RX0 yX0_turnFor wsX0_turnFor) := goodIn_app (goodIn_of _ (by decide +kernel)) ggX4_tell_X0_turnFor
set_option maxRecDepth 20000 in
theorem ggX4_tell_X3_move : GoodIn wsX4_tell wsX3_move := goodIn_r _ [30, 31, 32, 33, 34, 35, 36, 37, 38, 39, 40, 41, 29, 42, 43, 44, 45, 46, 47, 48, 49, 50, 51, 52, 53, 54, 55, 56, 57, 58, 10, 59, 12, 13, 14, 15, 16, 17, 120, 121, 122, 123, 124, 125, 126, 127, 106, 107, 108, 109, 110, 111, 112, 113] (by decide +kernel) (by decide +kernel)
set_option maxRecDepth 20000 in
theorem gX4_tell_X3_move : GoodIn wsX4_tell (wsV RX4 204 RX3 yX3_move wsX3_move) := goodIn_app (goodIn_of _ (by decide +kernel)) ggX4_tell_X3_move
set_option maxRecDepth 20000 in
theorem ggX4_tell_X0_insert : GoodIn wsX4_tell wsX0_insert := goodIn_r _ [63, 23, 64, 65, 66, 24, 25, 114, 115, 116, 117, 118, 119] (by decide +kernel) (by decide +kernel)
set_option maxRecDepth 20000 in
theorem gX4_tell_X0_insert : GoodIn wsX4_tell (wsV RX4 208 RX0 yX0_insert wsX0_insert) := goodIn_app (goodIn_of _ (by decide +kernel)) ggX4_tell_X0_insert
set_option maxRecDepth 20000 in
theorem ggX4_tell_X3_replay : GoodIn wsX4_tell wsX3_replay := goodIn_r _ [70, 71, 72, 73, 74, 75, 76, 77, 78, 29, 79, 34, 37, 36, 38, 35, 31, 32, 80, 81, 82, 83, 84, 85, 86, 87, 88, 89, 8, 9, 10, 11, 12, 13, 14, 15, 16, 17, 90, 27, 28, 30, 33, 39, 40, 41, 42, 43, 44, 45, 46, 47, 48, 49, 50, 51, 52, 53, 54, 55, 56, 57, 58, 59, 114, 115, 116, 117, 118, 119, 120, 121, 122, 123, 124, 125, 126, 127, 106, 107, 108, 109, 110, 111, 112, 113] (by decide +kernel) (by decide +kernel)
set_option maxRecDepth 20000 in
theorem gX4_tell_X3_replay : GoodIn wsX4_tell (wsV RX4 166 RX3 yX3_replay wsX3_replay) := goodIn_app (goodIn_of _ (by decide +kernel)) ggX4_tell_X3_replay
set_option maxRecDepth 20000 in
theorem ggX4_tell_X0_removeNewest : GoodIn wsX4_tell wsX0_removeNewest := goodIn_r _ [94, 23, 25, 114, 115, 116, 117, 118, 119] (by decide +kernel) (by decide +kernel)
set_option maxRecDepth 20000 in
theorem gX4_tell_X0_removeNewest : GoodIn wsX4_tell (wsV RX4 212 RX0 yX0_removeNewest wsX0_removeNewest) := goodIn_app (goodIn_of _ (by decide +kernel)) ggX4_tell_X0_removeNewest
set_option maxRecDepth 20000 in
theorem ggX4_tell_X4_takeTrial : GoodIn wsX4_tell wsX4_takeTrial := goodIn_r _ [99, 5, 6, 100, 101, 102, 103, 104, 105] (by decide +kernel) (by decide +kernel)
set_option maxRecDepth 20000 in
theorem gX4_tell_X4_takeTrial : GoodIn wsX4_tell (wsV RX4 170 RX4 yX4_takeTrial wsX4_takeTrial) := goodIn_app (goodIn_of _ (by decide +kernel)) ggX4_tell_X4_takeTrial
set_option maxRecDepth 20000 in
theorem ggX4_canGive_X3_unitsIn : GoodIn wsX4_canGive wsX3_unitsIn := goodIn_r _ [9, 10, 11, 26, 27, 28, 29, 30, 31, 32, 33] (by decide +kernel) (by decide +kernel)
set_option maxRecDepth 20000 in
theorem gX4_canGive_X3_unitsIn : GoodIn wsX4_canGive (wsV RX4 110 RX3 yX3_unitsIn wsX3_unitsIn) := goodIn_app (goodIn_of _ (by decide +kernel)) ggX4_canGive_X3_unitsIn
set_option maxRecDepth 20000 in
theorem ggX4_countTopFlows_X4_canGive : GoodIn wsX4_countTopFlows wsX4_canGive := goodIn_r _ [12, 1, 13, 14, 15, 16, 17, 18, 19, 20, 21, 22, 23, 24, 25, 26, 27, 28, 29, 30, 31, 32, 33, 34, 35, 36, 37, 38, 39, 40, 41, 42, 43, 44] (by decide +kernel) (by decide +kernel)
set_option maxRecDepth 20000 in
theorem gX4_countTopFlows_X4_canGive : GoodIn wsX4_countTopFlows (wsV RX4 221 RX4 yX4_canGive wsX4_canGive) := goodIn_app (goodIn_of _ (by decide +kernel)) ggX4_countTopFlows_X4_canGive
set_option maxRecDepth 20000 in
theorem ggX4_tellTopFlows_X4_canGive : GoodIn wsX4_tellTopFlows wsX4_canGive := goodIn_r _ [12, 1, 13, 14, 15, 16, 17, 18, 19, 20, 21, 22, 116, 117, 118, 119, 120, 121, 122, 123, 124, 125, 126, 127, 128, 129, 130, 131, 132, 133, 134, 135, 136, 137] (by decide +kernel) (by decide +kernel)
set_option maxRecDepth 20000 in
theorem gX4_tellTopFlows_X4_canGive : GoodIn wsX4_tellTopFlows (wsV RX4 221 RX4 yX4_canGive wsX4_canGive) := goodIn_app (goodIn_of _ (by decide +kernel)) ggX4_tellTopFlows_X4_canGive
set_option maxRecDepth 20000 in
theorem ggX4_tellTopFlows_X4_tell : GoodIn wsX4_tellTopFlows wsX4_tell := goodIn_r _ [26, 1, 14, 27, 28, 15, 29, 30, 31, 32, 33, 34, 35, 36, 37, 38, 39, 40, 41, 42, 43, 44, 45, 46, 47, 48, 49, 50, 51, 19, 52, 53, 54, 55, 56, 57, 22, 21, 58, 59, 17, 18, 20, 60, 61, 62, 63, 64, 65, 66, 67, 68, 69, 70, 71, 72, 73, 74, 75, 76, 77, 78, 79, 80, 81, 82, 83, 84, 85, 86, 87, 88, 89, 90, 91, 92, 93, 94, 95, 96, 97, 98, 99, 100, 101, 102, 103, 104, 105, 106, 107, 108, 109, 110, 111, 112, 113, 114, 11, 115, 116, 117, 118, 119, 120, 121, 122, 123, 124, 125, 126, 127, 128, 129, 138, 139, 140, 141, 142, 143, 130, 131, 132, 133, 134, 135, 136, 137] (by decide +kernel) (by decide +kernel)
set_option maxRecDepth 20000 in
theorem gX4_tellTopFlows_X4_tell : GoodIn wsX4_tellTopFlows (wsV RX4 104 RX4 yX4_tell wsX4_tell) := goodIn_app (goodIn_of _ (by decide +kernel)) ggX4_tellTopFlows_X4_tell
end
section
set_option maxRecDepth 20000 in
theorem ggX5_isLot_X5_isNode : GoodIn wsX5_isLot wsX5_isNode := goodIn_r _ [6, 7, 8, 9, 10, 11, 12, 13, 14, 15, 16, 17, 18, 19, 20, 21, 22, 23, 24, 25, 26, 27, 28, 29, 30, 31, 32] (by decide +kernel) (by decide +kernel)
set_option maxRecDepth 20000 in
theorem gX5_isLot_X5_isNode : GoodIn wsX5_isLot (wsV RX5 79 RX5 yX5_isNode wsX5_isNode) := goodIn_app (goodIn_of _ (by decide +kernel)) ggX5_isLot_X5_isNode
set_option maxRecDepth 20000 in
theorem ggX5_lot_X5_make : GoodIn wsX5_lot wsX5_make := goodIn_r _ [8, 9, 10, 11, 12, 13, 14, 15, 16, 17, 18, 19, 20, 21, 22, 23, 24, 25, 26, 27, 28, 29, 30, 31, 32, 33, 34, 35, 36, 37, 38, 39, 40] (by decide +kernel) (by decide +kernel)
set_option maxRecDepth 20000 in
theorem gX5_lot_X5_make : GoodIn wsX5_lot (wsV RX5 87 RX5 yX5_make wsX5_make) := goodIn_app (goodIn_of _ (by decide +kernel)) ggX5_lot_X5_make
set_option maxRecDepth 20000 in
theorem ggX5_thing_X5_make : GoodIn wsX5_thing wsX5_make := goodIn_r _ [6, 7, 8, 9, 10, 11, 12, 13, 14, 15, 16, 17, 18, 19, 20, 21, 22, 23, 24, 25, 26, 27, 28, 29, 30, 31, 32, 33, 34, 35, 36, 37, 38] (by decide +kernel) (by decide +kernel)
set_option maxRecDepth 20000 in
theorem gX5_thing_X5_make : GoodIn wsX5_thing (wsV RX5 87 RX5 yX5_make wsX5_make) := goodIn_app (goodIn_of _ (by decide +kernel)) ggX5_thing_X5_make
set_option maxRecDepth 20000 in
theorem ggX5_walk_X5_sum : GoodIn wsX5_walk wsX5_sum := goodIn_r _ [18, 1, 3, 25, 26, 27, 28, 29, 30, 31, 32, 33, 34, 35, 36, 37, 38, 39, 40, 41, 42, 43, 44, 45, 46, 47, 48, 49] (by decide +kernel) (by decide +kernel)
set_option maxRecDepth 20000 in
theorem gX5_walk_X5_sum : GoodIn wsX5_walk (wsV RX5 96 RX5 yX5_sum wsX5_sum) := goodIn_app (goodIn_of _ (by decide +kernel)) ggX5_walk_X5_sum
set_option maxRecDepth 20000 in
theorem ggX5_walk_X5_part : GoodIn wsX5_walk wsX5_part := goodIn_r _ [22, 1, 3, 12, 23, 24, 25, 26, 27, 28, 29, 30, 31, 32, 33, 34, 35, 36, 37, 38, 39, 40, 41, 42, 43, 44, 45, 46, 47, 48, 49] (by decide +kernel) (by decide +kernel)
set_option maxRecDepth 20000 in
theorem gX5_walk_X5_part : GoodIn wsX5_walk (wsV RX5 100 RX5 yX5_part wsX5_part) := goodIn_app (goodIn_of _ (by decide +kernel)) ggX5_walk_X5_part
set_option maxRecDepth 20000 in
theorem ggX5_flow_X5_isNode : GoodIn wsX5_flow wsX5_isNode := goodIn_r _ [11, 12, 41, 42, 43, 44, 45, 46, 47, 48, 49, 50, 51, 52, 53, 54, 55, 56, 57, 58, 59, 60, 61, 62, 63, 64, 65] (by decide +kernel) (by decide +kernel)
set_option maxRecDepth 20000 in
theorem gX5_flow_X5_isNode : GoodIn wsX5_flow (wsV RX5 79 RX5 yX5_isNode wsX5_isNode) := goodIn_app (goodIn_of _ (by decide +kernel)) ggX5_flow_X5_isNode
set_option maxRecDepth 20000 in
theorem ggX5_flow_X5_put : GoodIn wsX5_flow wsX5_put := goodIn_r _ [16, 17, 2, 18, 19, 20, 41, 42, 43, 44, 45, 46, 47, 48, 49, 50, 51, 52, 53, 54, 55, 56, 57, 58, 59, 60, 61, 62, 63, 64, 65] (by decide +kernel) (by decide +kernel)
set_option maxRecDepth 20000 in
theorem gX5_flow_X5_put : GoodIn wsX5_flow (wsV RX5 104 RX5 yX5_put wsX5_put) := goodIn_app (goodIn_of _ (by decide +kernel)) ggX5_flow_X5_put
set_option maxRecDepth 20000 in
theorem ggX5_flow_X5_walk : GoodIn wsX5_flow wsX5_walk := goodIn_r _ [24, 12, 3, 25, 26, 27, 2, 20, 28, 17, 19, 29, 30, 18, 31, 32, 33, 10, 34, 35, 36, 37, 38, 39, 40, 41, 42, 43, 44, 45, 46, 47, 48, 49, 50, 51, 52, 53, 54, 55, 56, 57, 58, 59, 60, 61, 62, 63, 64, 65] (by decide +kernel) (by decide +kernel)
set_option maxRecDepth 20000 in
theorem gX5_flow_X5_walk : GoodIn wsX5_flow (wsV RX5 108 RX5 yX5_walk wsX5_walk) := goodIn_app (goodIn_of _ (by decide +kernel)) ggX5_flow_X5_walk
set_option maxRecDepth 20000 in
theorem ggX5_left_X5_isNode : GoodIn wsX5_left wsX5_isNode := goodIn_r _ [7, 8, 34, 35, 36, 37, 38, 39, 40, 41, 42, 43, 44, 45, 46, 47, 48, 49, 50, 51, 52, 53, 54, 55, 56, 57, 58] (by decide +kernel) (by decide +kernel)
set_option maxRecDepth 20000 in
theorem gX5_left_X5_isNode : GoodIn wsX5_left (wsV RX5 79 RX5 yX5_isNode wsX5_isNode) := goodIn_app (goodIn_of _ (by decide +kernel)) ggX5_left_X5_isNode
set_option maxRecDepth 20000 in
theorem ggX5_left_X5_walk : GoodIn wsX5_left wsX5_walk := goodIn_r _ [12, 8, 13, 14, 15, 16, 17, 18, 19, 20, 21, 22, 23, 24, 25, 26, 27, 6, 28, 29, 30, 31, 32, 33, 2, 34, 35, 36, 37, 38, 39, 40, 41, 42, 43, 44, 45, 46, 47, 48, 49, 50, 51, 52, 53, 54, 55, 56, 57, 58] (by decide +kernel) (by decide +kernel)
set_option maxRecDepth 20000 in
theorem gX5_left_X5_walk : GoodIn wsX5_left (wsV RX5 108 RX5 yX5_walk wsX5_walk) := goodIn_app (goodIn_of _ (by decide +kernel)) ggX5_left_X5_walk
set_option maxRecDepth 20000 in
theorem ggX5_left_X5_sum : GoodIn wsX5_left wsX5_sum := goodIn_r _ [28, 8, 14, 34, 35, 36, 37, 38, 39, 40, 41, 42, 43, 44, 45, 46, 47, 48, 49, 50, 51, 52, 53, 54, 55, 56, 57, 58] (by decide +kernel) (by decide +kernel)
set_option maxRecDepth 20000 in
theorem gX5_left_X5_sum : GoodIn wsX5_left (wsV RX5 96 RX5 yX5_sum wsX5_sum) := goodIn_app (goodIn_of _ (by decide +kernel)) ggX5_left_X5_sum
set_option maxRecDepth 20000 in
theorem ggX5_share_X5_isNode : GoodIn wsX5_share wsX5_isNode := goodIn_r _ [8, 9, 38, 39, 40, 41, 42, 43, 44, 45, 46, 47, 48, 49, 50, 51, 52, 53, 54, 55, 56, 57, 58, 59, 60, 61, 62] (by decide +kernel) (by decide +kernel)
set_option maxRecDepth 20000 in
theorem gX5_share_X5_isNode : GoodIn wsX5_share (wsV RX5 79 RX5 yX5_isNode wsX5_isNode) := goodIn_app (goodIn_of _ (by decide +kernel)) ggX5_share_X5_isNode
set_option maxRecDepth 20000 in
theorem ggX5_share_X5_isLot : GoodIn wsX5_share wsX5_isLot := goodIn_r _ [13, 14, 4, 5, 6, 7, 8, 9, 38, 39, 40, 41, 42, 43, 44, 45, 46, 47, 48, 49, 50, 51, 52, 53, 54, 55, 56, 57, 58, 59, 60, 61, 62] (by decide +kernel) (by decide +kernel)
set_option maxRecDepth 20000 in
theorem gX5_share_X5_isLot : GoodIn wsX5_share (wsV RX5 112 RX5 yX5_isLot wsX5_isLot) := goodIn_app (goodIn_of _ (by decide +kernel)) ggX5_share_X5_isLot
set_option maxRecDepth 20000 in
theorem ggX5_share_X5_walk : GoodIn wsX5_share wsX5_walk := goodIn_r _ [18, 9, 14, 3, 19, 20, 21, 22, 23, 24, 25, 26, 27, 28, 29, 30, 31, 7, 32, 33, 34, 35, 36, 37, 2, 38, 39, 40, 41, 42, 43, 44, 45, 46, 47, 48, 49, 50, 51, 52, 53, 54, 55, 56, 57, 58, 59, 60, 61, 62] (by decide +kernel) (by decide +kernel)
set_option maxRecDepth 20000 in
theorem gX5_share_X5_walk : GoodIn wsX5_share (wsV RX5 108 RX5 yX5_walk wsX5_walk) := goodIn_app (goodIn_of _ (by decide +kernel)) ggX5_share_X5_walk
set_option maxRecDepth 20000 in
theorem ggX5_share_X5_sum : GoodIn wsX5_share wsX5_sum := goodIn_r _ [32, 9, 3, 38, 39, 40, 41, 42, 43, 44, 45, 46, 47, 48, 49, 50, 51, 52, 53, 54, 55, 56, 57, 58, 59, 60, 61, 62] (by decide +kernel) (by decide +kernel)
set_option maxRecDepth 20000 in
theorem gX5_share_X5_sum : GoodIn wsX5_share (wsV RX5 96 RX5 yX5_sum wsX5_sum) := goodIn_app (goodIn_of _ (by decide +kernel)) ggX5_share_X5_sum
set_option maxRecDepth 20000 in
theorem ggX5_back_X5_isNode : GoodIn wsX5_back wsX5_isNode := goodIn_r _ [8, 2, 34, 35, 36, 37, 38, 39, 40, 41, 42, 43, 44, 45, 46, 47, 48, 49, 50, 51, 52, 53, 54, 55, 56, 57, 58] (by decide +kernel) (by decide +kernel)
set_option maxRecDepth 20000 in
theorem gX5_back_X5_isNode : GoodIn wsX5_back (wsV RX5 79 RX5 yX5_isNode wsX5_isNode) := goodIn_app (goodIn_of _ (by decide +kernel)) ggX5_back_X5_isNode
set_option maxRecDepth 20000 in
theorem ggX5_back_X5_walk : GoodIn wsX5_back wsX5_walk := goodIn_r _ [12, 2, 13, 14, 15, 3, 16, 17, 18, 19, 20, 21, 22, 23, 24, 25, 26, 7, 27, 28, 29, 30, 31, 32, 33, 34, 35, 36, 37, 38, 39, 40, 41, 42, 43, 44, 45, 46, 47, 48, 49, 50, 51, 52, 53, 54, 55, 56, 57, 58] (by decide +kernel) (by decide +kernel)
set_option maxRecDepth 20000 in
theorem gX5_back_X5_walk : GoodIn wsX5_back (wsV RX5 108 RX5 yX5_walk wsX5_walk) := goodIn_app (goodIn_of _ (by decide +kernel)) ggX5_back_X5_walk
set_option maxRecDepth 20000 in
theorem ggX5_forward_X5_isLot : GoodIn wsX5_forward wsX5_isLot := goodIn_r _ [9, 3, 10, 11, 12, 8, 13, 2, 38, 39, 40, 41, 42, 43, 44, 45, 46, 47, 48, 49, 50, 51, 52, 53, 54, 55, 56, 57, 58, 59, 60, 61, 62] (by decide +kernel) (by decide +kernel)
set_option maxRecDepth 20000 in
theorem gX5_forward_X5_isLot : GoodIn wsX5_forward (wsV RX5 112 RX5 yX5_isLot wsX5_isLot) := goodIn_app (goodIn_of _ (by decide +kernel)) ggX5_forward_X5_isLot
set_option maxRecDepth 20000 in
theorem ggX5_forward_X5_walk : GoodIn wsX5_forward wsX5_walk := goodIn_r _ [17, 2, 3, 18, 19, 4, 20, 21, 22, 23, 24, 25, 26, 27, 28, 29, 30, 8, 31, 32, 33, 34, 35, 36, 37, 38, 39, 40, 41, 42, 43, 44, 45, 46, 47, 48, 49, 50, 51, 52, 53, 54, 55, 56, 57, 58, 59, 60, 61, 62] (by decide +kernel) (by decide +kernel)
set_option maxRecDepth 20000 in
theorem gX5_forward_X5_walk : GoodIn wsX5_forward (wsV RX5 108 RX5 yX5_walk wsX5_walk) := goodIn_app (goodIn_of _ (by decide +kernel)) ggX5_forward_X5_walk
set_option maxRecDepth 20000 in
theorem ggX5_place_X5_isNode : GoodIn wsX5_place wsX5_isNode := goodIn_r _ [9, 10, 11, 12, 13, 14, 15, 16, 17, 18, 19, 20, 21, 22, 23, 24, 25, 26, 27, 28, 29, 30, 31, 32, 33, 34, 35] (by decide +kernel) (by decide +kernel)
set_option maxRecDepth 20000 in
theorem gX5_place_X5_isNode : GoodIn wsX5_place (wsV RX5 79 RX5 yX5_isNode wsX5_isNode) := goodIn_app (goodIn_of _ (by decide +kernel)) ggX5_place_X5_isNode
set_option maxRecDepth 20000 in
theorem ggX5_recall_X5_isLot : GoodIn wsX5_recall wsX5_isLot := goodIn_r _ [18, 7, 19, 20, 21, 17, 22, 4, 46, 47, 48, 49, 50, 51, 52, 53, 54, 55, 56, 57, 58, 59, 60, 61, 62, 63, 64, 65, 66, 67, 68, 69, 70] (by decide +kernel) (by decide +kernel)
set_option maxRecDepth 20000 in
theorem gX5_recall_X5_isLot : GoodIn wsX5_recall (wsV RX5 112 RX5 yX5_isLot wsX5_isLot) := goodIn_app (goodIn_of _ (by decide +kernel)) ggX5_recall_X5_isLot
set_option maxRecDepth 20000 in
theorem ggX5_recall_X5_walk : GoodIn wsX5_recall wsX5_walk := goodIn_r _ [26, 4, 7, 13, 27, 8, 28, 29, 30, 31, 32, 33, 34, 35, 36, 37, 38, 17, 39, 40, 41, 42, 43, 44, 45, 46, 47, 48, 49, 50, 51, 52, 53, 54, 55, 56, 57, 58, 59, 60, 61, 62, 63, 64, 65, 66, 67, 68, 69, 70] (by decide +kernel) (by decide +kernel)
set_option maxRecDepth 20000 in
theorem gX5_recall_X5_walk : GoodIn wsX5_recall (wsV RX5 108 RX5 yX5_walk wsX5_walk) := goodIn_app (goodIn_of _ (by decide +kernel)) ggX5_recall_X5_walk
set_option maxRecDepth 20000 in
theorem ggX5_hold_X5_isNode : GoodIn wsX5_hold wsX5_isNode := goodIn_r _ [7, 8, 9, 10, 11, 12, 13, 14, 15, 16, 17, 18, 19, 20, 21, 22, 23, 24, 25, 26, 27, 28, 29, 30, 31, 32, 33] (by decide +kernel) (by decide +kernel)
set_option maxRecDepth 20000 in
theorem gX5_hold_X5_isNode : GoodIn wsX5_hold (wsV RX5 79 RX5 yX5_isNode wsX5_isNode) := goodIn_app (goodIn_of _ (by decide +kernel)) ggX5_hold_X5_isNode
set_option maxRecDepth 20000 in
theorem ggX5_correct_X5_walk : GoodIn wsX5_correct wsX5_walk := goodIn_r _ [20, 15, 21, 9, 22, 23, 2, 24, 25, 7, 8, 26, 27, 28, 29, 30, 31, 19, 32, 33, 34, 35, 36, 37, 38, 39, 40, 41, 42, 43, 44, 45, 46, 47, 48, 49, 50, 51, 52, 53, 54, 55, 56, 57, 58, 59, 60, 61, 62, 63] (by decide +kernel) (by decide +kernel)
set_option maxRecDepth 20000 in
theorem gX5_correct_X5_walk : GoodIn wsX5_correct (wsV RX5 108 RX5 yX5_walk wsX5_walk) := goodIn_app (goodIn_of _ (by decide +kernel)) ggX5_correct_X5_walk
set_option maxRecDepth 20000 in
theorem ggX5_top_X5_isNode : GoodIn wsX5_top wsX5_isNode := goodIn_r _ [15, 7, 44, 45, 46, 47, 48, 49, 50, 51, 52, 53, 54, 55, 56, 57, 58, 59, 60, 61, 62, 63, 64, 65, 66, 67, 68] (by decide +kernel) (by decide +kernel)
set_option maxRecDepth 20000 in
theorem gX5_top_X5_isNode : GoodIn wsX5_top (wsV RX5 79 RX5 yX5_isNode wsX5_isNode) := goodIn_app (goodIn_of _ (by decide +kernel)) ggX5_top_X5_isNode
set_option maxRecDepth 20000 in
theorem ggX5_top_X5_isLot : GoodIn wsX5_top wsX5_isLot := goodIn_r _ [19, 2, 11, 12, 13, 14, 15, 7, 44, 45, 46, 47, 48, 49, 50, 51, 52, 53, 54, 55, 56, 57, 58, 59, 60, 61, 62, 63, 64, 65, 66, 67, 68] (by decide +kernel) (by decide +kernel)
set_option maxRecDepth 20000 in
theorem gX5_top_X5_isLot : GoodIn wsX5_top (wsV RX5 112 RX5 yX5_isLot wsX5_isLot) := goodIn_app (goodIn_of _ (by decide +kernel)) ggX5_top_X5_isLot
set_option maxRecDepth 20000 in
theorem ggX5_top_X5_walk : GoodIn wsX5_top wsX5_walk := goodIn_r _ [23, 7, 2, 10, 24, 25, 4, 5, 26, 27, 28, 8, 29, 30, 31, 32, 33, 14, 34, 35, 36, 37, 38, 39, 6, 44, 45, 46, 47, 48, 49, 50, 51, 52, 53, 54, 55, 56, 57, 58, 59, 60, 61, 62, 63, 64, 65, 66, 67, 68] (by decide +kernel) (by decide +kernel)
set_option maxRecDepth 20000 in
theorem gX5_top_X5_walk : GoodIn wsX5_top (wsV RX5 108 RX5 yX5_walk wsX5_walk) := goodIn_app (goodIn_of _ (by decide +kernel)) ggX5_top_X5_walk
set_option maxRecDepth 20000 in
theorem ggX5_top_X5_put : GoodIn wsX5_top wsX5_put := goodIn_r _ [43, 27, 4, 30, 28, 5, 44, 45, 46, 47, 48, 49, 50, 51, 52, 53, 54, 55, 56, 57, 58, 59, 60, 61, 62, 63, 64, 65, 66, 67, 68] (by decide +kernel) (by decide +kernel)
set_option maxRecDepth 20000 in
theorem gX5_top_X5_put : GoodIn wsX5_top (wsV RX5 104 RX5 yX5_put wsX5_put) := goodIn_app (goodIn_of _ (by decide +kernel)) ggX5_top_X5_put
set_option maxRecDepth 20000 in
theorem ggX5_whole_X5_isNode : GoodIn wsX5_whole wsX5_isNode := goodIn_r _ [6, 7, 8, 9, 10, 11, 12, 13, 14, 15, 16, 17, 18, 19, 20, 21, 22, 23, 24, 25, 26, 27, 28, 29, 30, 31, 32] (by decide +kernel) (by decide +kernel)
set_option maxRecDepth 20000 in
theorem gX5_whole_X5_isNode : GoodIn wsX5_whole (wsV RX5 79 RX5 yX5_isNode wsX5_isNode) := goodIn_app (goodIn_of _ (by decide +kernel)) ggX5_whole_X5_isNode
set_option maxRecDepth 20000 in
theorem ggX5_loss_X5_isNode : GoodIn wsX5_loss wsX5_isNode := goodIn_r _ [12, 13, 14, 15, 16, 17, 18, 19, 20, 21, 22, 23, 24, 25, 26, 27, 28, 29, 30, 31, 32, 33, 34, 35, 36, 37, 38] (by decide +kernel) (by decide +kernel)
set_option maxRecDepth 20000 in
theorem gX5_loss_X5_isNode : GoodIn wsX5_loss (wsV RX5 79 RX5 yX5_isNode wsX5_isNode) := goodIn_app (goodIn_of _ (by decide +kernel)) ggX5_loss_X5_isNode
end
section
/-! ROWS OF ONE'S OWN above the kit's: a contract's world, a call in one row, compares of longs with their branch, stores that name what they leave -/
abbrev vv_ty (cI cJ cZ : ClassId) : List (ClassId × FieldType) := [(cI, .int), (cJ, .long), (cZ, .boolean)]
/-- the world at a contract's start, and at its end -/
def vv_B (D : va_G) (tys : List (ClassId × FieldType)) (ws : va_W) (sz : Nat) : State → Prop := fun U => U.heap.size = sz ∧ va_P D vwCl ws U.heap ∧ va_K D vwCl tys U ∧ va_D (fun _ => True) ws
def vv_E (D : va_G) (tys : List (ClassId × FieldType)) (A : Nat → Prop) {S : Type} (f : S → va_W) : S → State → Prop := fun u t => va_P D vwCl (f u) t.heap ∧ va_K D vwCl tys t ∧ va_D A (f u)
/-- a boolean that is returned is one -/
def vv_bo (v : Int32) : Prop := narrow .boolean (.int v) = .int v
theorem vv_bo0 : vv_bo 0 := by unfold vv_bo; decide +kernel
theorem vv_bo1 : vv_bo 1 := by unfold vv_bo; decide +kernel
theorem vv_blind {D : va_G} {tys : List (ClassId × FieldType)} {ws : va_W} {sz : Nat} {av : List Value} : FrameBlind (va_Pc av (vv_B D tys ws sz)) := fun a U g mk q => by
  obtain ⟨q0, q1, qP, qK, qD⟩ := q
  exact ⟨q0, q1, qP, va_K.moved (u := U) (U := U.calling g mk a) (Vm.Alike.refl U.vm) qK, qD⟩
theorem vv_preV {D : va_G} {tys : List (ClassId × FieldType)} {ws : va_W} {s : State} {H : Heap} {A : Nat → Prop} {C : String} {T : u_T} {N b ci : Nat} {fs As : List Value} (hK : va_K D vwCl tys s) (hP : va_P D vwCl ws H) (hD : va_D A ws) (hc : vwCl[ci]? = some (C, T, N)) (he : ws[0]? = some (b, .inr (ci, fs))) : PreV s H C b (va_Pc (.ref b :: As) (vv_B D tys ws H.size)) As :=
  ⟨vv_blind, va_recv hK hP hc he, fun U hU hW => ⟨rfl, by rw [hU], by rw [hU]; exact hP, va_K.moved hW.alike hK, hD.weaken (fun _ _ _ _ => trivial)⟩⟩
theorem vv_preS {D : va_G} {tys : List (ClassId × FieldType)} {ws : va_W} {s : State} {H : Heap} {A : Nat → Prop} {As : List Value} (hK : va_K D vwCl tys s) (hP : va_P D vwCl ws H) (hD : va_D A ws) : PreS s H (va_Pc As (vv_B D tys ws H.size)) As :=
  ⟨vv_blind, fun U hU hW => ⟨rfl, by rw [hU], by rw [hU]; exact hP, va_K.moved hW.alike hK, hD.weaken (fun _ _ _ _ => trivial)⟩⟩
theorem vv_subP {D : va_G} {ws wc : va_W} {H : Heap} (hP : va_P D vwCl ws H) (isC : List Nat) (hC : isC.map (fun i => ws[i]?) = wc.map some) : va_P D vwCl wc H := by
  intro k q hk
  have h1 : (isC.map (fun i => ws[i]?))[k]? = some (some q) := by rw [hC, List.getElem?_map, hk]; rfl
  rw [List.getElem?_map] at h1
  cases hi : isC[k]? with
  | none => rw [hi] at h1; cases h1
  | some i => rw [hi] at h1; exact hP i q (Option.some.inj h1)
section VVC
variable {p : Program} {l : Launch} {e : Env} {R : Room} {s : State} {m : MethodId} {args : Array Value} {below : List Frame} {meth : Method} {c : Code} {H : Heap} {locs : List Loc} {cells slots : Nat} {Q : State → Prop}
variable {cc bytes : ByteArray} {pc maxL nL mc ms n index : Nat} {ls : Array Slot} {st0 rest As : List Value} {D : va_G} {tys : List (ClassId × FieldType)} {A0 : Nat → Prop} {H0 : Heap} {ws wc : va_W} {y : MethodName} {ret : Option FieldType} {wl Ts : List Cond} {rm : Room} {own C : String} {T : u_T} {N ci b : Nat} {fs : List Value} {S : Type}
theorem vv_goi {post : Int32 → S → Prop} {f : S → va_W} {a : Array Value} (isC isR : List Nat) (wr : va_W) (pm : List Nat) (wn : S → va_W)
    (hr : va_Run p l e R s m args below meth c H locs cells slots mc ms (F0 m pc ls st0) rest (va_Qi post (vv_E D tys (va_A wc H.size) f) (va_A wc H.size) a) (va_A wc H.size))
    (hP : va_P D vwCl ws H) (hD : va_D A0 ws) (hS : va_S A0 H0 H locs) (hA : ∀ q, H0.size ≤ q → A0 q) (hC : isC.map (fun i => ws[i]?) = wc.map some) (hR : isR.map (fun i => ws[i]?) = wr.map some) (hn : va_nd isR = true) (hdis : ∀ i ∈ isR, i ∉ isC) (hpm : ∀ u : S, pm.map (fun i => (wr ++ f u)[i]?) = (wn u).map some) (hnp : va_nd pm = true)
    (kk : ∀ (r : Int32) (u : S) (H1 : Heap) (locs1 : List Loc), post r u → va_P D vwCl (wn u) H1 → va_D A0 (wn u) → va_S A0 H0 H1 locs1 → W p l e R s m args below meth c H1 locs1 (cells + mc) (slots + ms) Q (F0 m (pc + 3) ls (.int r :: rest))) :
    W p l e R s m args below meth c H locs cells slots Q (F0 m pc ls st0) := by
  have hFc := va_free (wc := wc) hD hS hA isC hC
  refine va_calli hr hS (fun q _ h => hFc q h) hFc (fun r u t H1 locs1 ht hvm hw hB hz hk hS => ?_)
  obtain ⟨hP1, hK1, hD1⟩ := hB
  rw [ht] at hP1
  obtain ⟨hP, hD⟩ := va_join (wr := wr) (w1 := f u) hP hD isC isR hC hR hn hdis hk hFc hP1 hD1
  exact kk r u H1 locs1 hw (vv_subP hP pm (hpm u)) (hD.sub pm hnp (hpm u)) hS
theorem vv_gol {post : Int64 → S → Prop} {f : S → va_W} {a : Array Value} (isC isR : List Nat) (wr : va_W) (pm : List Nat) (wn : S → va_W)
    (hr : va_Run p l e R s m args below meth c H locs cells slots mc ms (F0 m pc ls st0) rest (va_Ql post (vv_E D tys (va_A wc H.size) f) (va_A wc H.size) a) (va_A wc H.size))
    (hP : va_P D vwCl ws H) (hD : va_D A0 ws) (hS : va_S A0 H0 H locs) (hA : ∀ q, H0.size ≤ q → A0 q) (hC : isC.map (fun i => ws[i]?) = wc.map some) (hR : isR.map (fun i => ws[i]?) = wr.map some) (hn : va_nd isR = true) (hdis : ∀ i ∈ isR, i ∉ isC) (hpm : ∀ u : S, pm.map (fun i => (wr ++ f u)[i]?) = (wn u).map some) (hnp : va_nd pm = true)
    (kk : ∀ (r : Int64) (u : S) (H1 : Heap) (locs1 : List Loc), post r u → va_P D vwCl (wn u) H1 → va_D A0 (wn u) → va_S A0 H0 H1 locs1 → W p l e R s m args below meth c H1 locs1 (cells + mc) (slots + ms) Q (F0 m (pc + 3) ls (.long r :: rest))) :
    W p l e R s m args below meth c H locs cells slots Q (F0 m pc ls st0) := by
  have hFc := va_free (wc := wc) hD hS hA isC hC
  refine va_calll hr hS (fun q _ h => hFc q h) hFc (fun r u t H1 locs1 ht hvm hw hB hz hk hS => ?_)
  obtain ⟨hP1, hK1, hD1⟩ := hB
  rw [ht] at hP1
  obtain ⟨hP, hD⟩ := va_join (wr := wr) (w1 := f u) hP hD isC isR hC hR hn hdis hk hFc hP1 hD1
  exact kk r u H1 locs1 hw (vv_subP hP pm (hpm u)) (hD.sub pm hnp (hpm u)) hS
theorem vv_gov {post : S → Prop} {f : S → va_W} {a : Array Value} (isC isR : List Nat) (wr : va_W) (pm : List Nat) (wn : S → va_W)
    (hr : va_Run p l e R s m args below meth c H locs cells slots mc ms (F0 m pc ls st0) rest (va_Qv post (vv_E D tys (va_A wc H.size) f) (va_A wc H.size) a) (va_A wc H.size))
    (hP : va_P D vwCl ws H) (hD : va_D A0 ws) (hS : va_S A0 H0 H locs) (hA : ∀ q, H0.size ≤ q → A0 q) (hC : isC.map (fun i => ws[i]?) = wc.map some) (hR : isR.map (fun i => ws[i]?) = wr.map some) (hn : va_nd isR = true) (hdis : ∀ i ∈ isR, i ∉ isC) (hpm : ∀ u : S, pm.map (fun i => (wr ++ f u)[i]?) = (wn u).map some) (hnp : va_nd pm = true)
    (kk : ∀ (u : S) (H1 : Heap) (locs1 : List Loc), post u → va_P D vwCl (wn u) H1 → va_D A0 (wn u) → va_S A0 H0 H1 locs1 → W p l e R s m args below meth c H1 locs1 (cells + mc) (slots + ms) Q (F0 m (pc + 3) ls rest)) :
    W p l e R s m args below meth c H locs cells slots Q (F0 m pc ls st0) := by
  have hFc := va_free (wc := wc) hD hS hA isC hC
  refine va_callv hr hS (fun q _ h => hFc q h) hFc (fun u t H1 locs1 ht hvm hw hB hz hk hS => ?_)
  obtain ⟨hP1, hK1, hD1⟩ := hB
  rw [ht] at hP1
  obtain ⟨hP, hD⟩ := va_join (wr := wr) (w1 := f u) hP hD isC isR hC hR hn hdis hk hFc hP1 hD1
  exact kk u H1 locs1 hw (vv_subP hP pm (hpm u)) (hD.sub pm hnp (hpm u)) hS
/-- a virtual call's run: the callee's cells cut out -/
theorem vv_rv {Qc : Array Value → State → Outcome → State → Prop} {free : Addr → Prop} (CF : CallFix p m c cc nL s args Ts own) (hM : Met l y wl rm (va_Pc (.ref b :: As) (vv_B D tys wc H.size)) Qc mc ms free) (cw : CallW R s args own C index y bytes maxL ret wl rm mc ms n)
    (hK : va_K D vwCl tys s) (hP : va_P D vwCl ws H) (hD : va_D A0 ws) (isC : List Nat) (hC : isC.map (fun i => ws[i]?) = wc.map some) (hnC : va_nd isC = true) (hc : vwCl[ci]? = some (C, T, N)) (he : wc[0]? = some (b, .inr (ci, fs)))
    (hn : As.length = n) (hsize : ls.size = nL) (hstack : st0 = As.reverse ++ .ref b :: rest) (hW : (rest.map fun v => v.category).sum ≤ 8) (hdg : decode cc pc = .ok (.invokevirtual index, 3)) (hf : cells + mc ≤ R.cells ∧ slots + ms ≤ R.slots) :
    va_Run p l e R s m args below meth c H locs cells slots mc ms (F0 m pc ls st0) rest (Qc (Value.ref b :: As).toArray) free :=
  va_runV (As := As) (rest := rest) CF hM cw (vv_preV hK (vv_subP hP isC hC) (hD.sub isC hnC hC) hc he) rfl hn hsize hstack (lv_room hW) hdg hf
theorem vv_rs {Qc : Array Value → State → Outcome → State → Prop} {free : Addr → Prop} (CF : CallFix p m c cc nL s args Ts own) (hM : Met l y wl rm (va_Pc As (vv_B D tys wc H.size)) Qc mc ms free) (cw : CallB R s args own index y bytes maxL ret wl rm mc ms n ∧ (Cond.static y).before args s = true)
    (hK : va_K D vwCl tys s) (hP : va_P D vwCl ws H) (hD : va_D A0 ws) (isC : List Nat) (hC : isC.map (fun i => ws[i]?) = wc.map some) (hnC : va_nd isC = true)
    (hn : As.length = n) (hsize : ls.size = nL) (hstack : st0 = As.reverse ++ rest) (hW : (rest.map fun v => v.category).sum ≤ 8) (hdg : decode cc pc = .ok (.invokestatic index, 3)) (hf : cells + mc ≤ R.cells ∧ slots + ms ≤ R.slots) :
    va_Run p l e R s m args below meth c H locs cells slots mc ms (F0 m pc ls st0) rest (Qc As.toArray) free :=
  va_runS (As := As) (rest := rest) CF hM cw (vv_preS hK (vv_subP hP isC hC) (hD.sub isC hnC hC)) rfl hn hsize hstack (lv_room hW) hdg hf
end VVC
section VVL
variable {p : Program} {l : Launch} {e : Env} {R : Room} {s : State} {m : MethodId} {args : Array Value} {below : List Frame} {meth : Method} {c : Code} {H : Heap} {locs : List Loc} {cells slots : Nat} {Q : State → Prop}
variable {cc : ByteArray} {pc : Nat} {ls : Array Slot} {rest : List Value}
theorem vv_cmp_lt {x y : Int64} : lg_cmp x y < 0 ↔ x < y := by
  unfold lg_cmp
  by_cases h1 : y < x
  · simp [h1]; exact Int64.le_iff_toInt_le.mpr (by have := Int64.lt_iff_toInt_lt.mp h1; omega)
  · by_cases h2 : x = y
    · subst h2; simp [h1]
    · simp [h1, h2]
      have a : ¬ y.toInt < x.toInt := fun h => h1 (Int64.lt_iff_toInt_lt.mpr h)
      have b : x.toInt ≠ y.toInt := fun h => h2 (Int64.toInt_inj.mp h)
      exact Int64.lt_iff_toInt_lt.mpr (by omega)
theorem vv_cmp_gt {x y : Int64} : 0 < lg_cmp x y ↔ y < x := by
  unfold lg_cmp
  by_cases h1 : y < x
  · simp [h1]
  · by_cases h2 : x = y
    · subst h2; simp [h1]
    · simp [h1, h2]
theorem vv_cmp_eq {x y : Int64} : lg_cmp x y = 0 ↔ x = y := by
  unfold lg_cmp
  by_cases h1 : y < x
  · simp [h1]; intro h; subst h; exact absurd (Int64.lt_iff_toInt_lt.mp h1) (by omega)
  · by_cases h2 : x = y
    · subst h2; simp [h1]
    · simp [h1, h2]
theorem vv_i32_ge {z : Int32} : 0 ≤ z ↔ ¬ z < 0 := by rw [Int32.le_iff_toInt_le, Int32.lt_iff_toInt_lt]; omega
theorem vv_i32_le {z : Int32} : z ≤ 0 ↔ ¬ 0 < z := by rw [Int32.le_iff_toInt_le, Int32.lt_iff_toInt_lt]; omega
theorem vv_lcmp_lt (hexec : p.tables.exec = Jvm.exec) (hb : c.code = cc) {x y : Int64} {off : Int} {tgt : Nat} (d1 : decode cc pc = .ok (.lcmp, 1)) (d2 : decode cc (pc + 1) = .ok (.ifCond .lt off, 3)) (ht : ((pc + 1 : Nat) : Int) + off = (tgt : Int))
    (kt : x < y → W p l e R s m args below meth c H locs cells slots Q (F0 m tgt ls rest)) (kf : ¬ x < y → W p l e R s m args below meth c H locs cells slots Q (F0 m (pc + 4) ls rest)) : W p l e R s m args below meth c H locs cells slots Q (F0 m pc ls (.long y :: .long x :: rest)) :=
  W.lcmp hexec hb d1 (lv_if_lt hexec hb d2 ht (fun h => kt (vv_cmp_lt.mp h)) (fun h => kf (fun h2 => h (vv_cmp_lt.mpr h2))))
theorem vv_lcmp_ge (hexec : p.tables.exec = Jvm.exec) (hb : c.code = cc) {x y : Int64} {off : Int} {tgt : Nat} (d1 : decode cc pc = .ok (.lcmp, 1)) (d2 : decode cc (pc + 1) = .ok (.ifCond .ge off, 3)) (ht : ((pc + 1 : Nat) : Int) + off = (tgt : Int))
    (kt : ¬ x < y → W p l e R s m args below meth c H locs cells slots Q (F0 m tgt ls rest)) (kf : x < y → W p l e R s m args below meth c H locs cells slots Q (F0 m (pc + 4) ls rest)) : W p l e R s m args below meth c H locs cells slots Q (F0 m pc ls (.long y :: .long x :: rest)) :=
  W.lcmp hexec hb d1 (lv_if_ge hexec hb d2 ht (fun h => kt (fun h2 => (vv_i32_ge.mp h) (vv_cmp_lt.mpr h2))) (fun h => kf (vv_cmp_lt.mp (Classical.byContradiction fun h2 => h (vv_i32_ge.mpr h2)))))
theorem vv_lcmp_gt (hexec : p.tables.exec = Jvm.exec) (hb : c.code = cc) {x y : Int64} {off : Int} {tgt : Nat} (d1 : decode cc pc = .ok (.lcmp, 1)) (d2 : decode cc (pc + 1) = .ok (.ifCond .gt off, 3)) (ht : ((pc + 1 : Nat) : Int) + off = (tgt : Int))
    (kt : y < x → W p l e R s m args below meth c H locs cells slots Q (F0 m tgt ls rest)) (kf : ¬ y < x → W p l e R s m args below meth c H locs cells slots Q (F0 m (pc + 4) ls rest)) : W p l e R s m args below meth c H locs cells slots Q (F0 m pc ls (.long y :: .long x :: rest)) :=
  W.lcmp hexec hb d1 (lv_if_gt hexec hb d2 ht (fun h => kt (vv_cmp_gt.mp h)) (fun h => kf (fun h2 => h (vv_cmp_gt.mpr h2))))
theorem vv_lcmp_le (hexec : p.tables.exec = Jvm.exec) (hb : c.code = cc) {x y : Int64} {off : Int} {tgt : Nat} (d1 : decode cc pc = .ok (.lcmp, 1)) (d2 : decode cc (pc + 1) = .ok (.ifCond .le off, 3)) (ht : ((pc + 1 : Nat) : Int) + off = (tgt : Int))
    (kt : ¬ y < x → W p l e R s m args below meth c H locs cells slots Q (F0 m tgt ls rest)) (kf : y < x → W p l e R s m args below meth c H locs cells slots Q (F0 m (pc + 4) ls rest)) : W p l e R s m args below meth c H locs cells slots Q (F0 m pc ls (.long y :: .long x :: rest)) :=
  W.lcmp hexec hb d1 (lv_if_le hexec hb d2 ht (fun h => kt (fun h2 => (vv_i32_le.mp h) (vv_cmp_gt.mpr h2))) (fun h => kf (vv_cmp_gt.mp (Classical.byContradiction fun h2 => h (vv_i32_le.mpr h2)))))
theorem vv_lcmp_eq (hexec : p.tables.exec = Jvm.exec) (hb : c.code = cc) {x y : Int64} {off : Int} {tgt : Nat} (d1 : decode cc pc = .ok (.lcmp, 1)) (d2 : decode cc (pc + 1) = .ok (.ifCond .eq off, 3)) (ht : ((pc + 1 : Nat) : Int) + off = (tgt : Int))
    (kt : x = y → W p l e R s m args below meth c H locs cells slots Q (F0 m tgt ls rest)) (kf : ¬ x = y → W p l e R s m args below meth c H locs cells slots Q (F0 m (pc + 4) ls rest)) : W p l e R s m args below meth c H locs cells slots Q (F0 m pc ls (.long y :: .long x :: rest)) :=
  W.lcmp hexec hb d1 (lv_if_eq hexec hb d2 ht (fun h => kt (vv_cmp_eq.mp h)) (fun h => kf (fun h2 => h (vv_cmp_eq.mpr h2))))
theorem vv_lcmp_ne (hexec : p.tables.exec = Jvm.exec) (hb : c.code = cc) {x y : Int64} {off : Int} {tgt : Nat} (d1 : decode cc pc = .ok (.lcmp, 1)) (d2 : decode cc (pc + 1) = .ok (.ifCond .ne off, 3)) (ht : ((pc + 1 : Nat) : Int) + off = (tgt : Int))
    (kt : ¬ x = y → W p l e R s m args below meth c H locs cells slots Q (F0 m tgt ls rest)) (kf : x = y → W p l e R s m args below meth c H locs cells slots Q (F0 m (pc + 4) ls rest)) : W p l e R s m args below meth c H locs cells slots Q (F0 m pc ls (.long y :: .long x :: rest)) :=
  W.lcmp hexec hb d1 (lv_if_ne hexec hb d2 ht (fun h => kt (fun h2 => h (vv_cmp_eq.mpr h2))) (fun h => kf (vv_cmp_eq.mp h)))
end VVL
section VVS
variable {p : Program} {l : Launch} {e : Env} {R : Room} {s : State} {m : MethodId} {args : Array Value} {below : List Frame} {meth : Method} {c : Code} {H : Heap} {locs : List Loc} {cells slots : Nat} {Q : State → Prop}
variable {cc : ByteArray} {pc : Nat} {ls : Array Slot} {rest : List Value} {D : va_G} {cl : List vw_C} {A : Nat → Prop} {a : Nat} {tys : List (ClassId × FieldType)} {ws : va_W} {H0 : Heap}
theorem vv_iast (hexec : p.tables.exec = Jvm.exec) (hb : c.code = cc) (hK : va_K D cl tys s) (hP : va_P D cl ws H) (hD : va_D A ws) (hS : va_S A H0 H locs) (q0 t0 : Nat) {cA : ClassId} {n : Nat} {f : Nat → Int32} (ha : ws[q0]? = some (a, .inl (cA, n, .inl f))) (ht : tys[t0]? = some (cA, .int)) {i : Int32} {x : Int32} (hin : vp_in i n) (hdg : decode cc pc = .ok (.iastore, 1))
    (kk : ∀ (g : Nat → Int32), g = upd f i.toNatClampNeg x → ∀ (H1 : Heap) (locs1 : List Loc), va_P D cl (ws.set q0 (a, .inl (cA, n, .inl g))) H1 → va_D A (ws.set q0 (a, .inl (cA, n, .inl g))) → va_S A H0 H1 locs1 → W p l e R s m args below meth c H1 locs1 cells slots Q (F0 m (pc + 1) ls rest)) : W p l e R s m args below meth c H locs cells slots Q (F0 m pc ls (.int x :: .int i :: .ref a :: rest)) :=
  va_iast hexec hb hK hP hD hS q0 t0 ha ht hin hdg (kk _ rfl)
theorem vv_zast (hexec : p.tables.exec = Jvm.exec) (hb : c.code = cc) (hK : va_K D cl tys s) (hP : va_P D cl ws H) (hD : va_D A ws) (hS : va_S A H0 H locs) (q0 t0 : Nat) {cA : ClassId} {n : Nat} {f : Nat → Int32} (ha : ws[q0]? = some (a, .inl (cA, n, .inl f))) (ht : tys[t0]? = some (cA, .boolean)) {i : Int32} {x : Int32} (hin : vp_in i n) (hdg : decode cc pc = .ok (.bastore, 1))
    (kk : ∀ (g : Nat → Int32), g = upd f i.toNatClampNeg (vp_nar .boolean x) → ∀ (H1 : Heap) (locs1 : List Loc), va_P D cl (ws.set q0 (a, .inl (cA, n, .inl g))) H1 → va_D A (ws.set q0 (a, .inl (cA, n, .inl g))) → va_S A H0 H1 locs1 → W p l e R s m args below meth c H1 locs1 cells slots Q (F0 m (pc + 1) ls rest)) : W p l e R s m args below meth c H locs cells slots Q (F0 m pc ls (.int x :: .int i :: .ref a :: rest)) :=
  va_zast hexec hb hK hP hD hS q0 t0 ha ht hin hdg (kk _ rfl)
theorem vv_last (hexec : p.tables.exec = Jvm.exec) (hb : c.code = cc) (hK : va_K D cl tys s) (hP : va_P D cl ws H) (hD : va_D A ws) (hS : va_S A H0 H locs) (q0 t0 : Nat) {cA : ClassId} {n : Nat} {f : Nat → Int64} (ha : ws[q0]? = some (a, .inl (cA, n, .inr (.inl f)))) (ht : tys[t0]? = some (cA, .long)) {i : Int32} {x : Int64} (hin : vp_in i n) (hdg : decode cc pc = .ok (.lastore, 1))
    (kk : ∀ (g : Nat → Int64), g = vp_updL f i.toNatClampNeg x → ∀ (H1 : Heap) (locs1 : List Loc), va_P D cl (ws.set q0 (a, .inl (cA, n, .inr (.inl g)))) H1 → va_D A (ws.set q0 (a, .inl (cA, n, .inr (.inl g)))) → va_S A H0 H1 locs1 → W p l e R s m args below meth c H1 locs1 cells slots Q (F0 m (pc + 1) ls rest)) : W p l e R s m args below meth c H locs cells slots Q (F0 m pc ls (.long x :: .int i :: .ref a :: rest)) :=
  va_last hexec hb hK hP hD hS q0 t0 ha ht hin hdg (kk _ rfl)
theorem vv_newa (hexec : p.tables.exec = Jvm.exec) (hb : c.code = cc) {atype : ArrayType} (harr : (Cond.arrayClass (newarray.typeOf atype)).before args s = true) {ty : FieldType} (hty : newarray.typeOf atype = ty) (hK : va_K D cl tys s) (hP : va_P D cl ws H) (hD : va_D A ws) (hS : va_S A H0 H locs) (hA : ∀ q, H0.size ≤ q → A q)
    {t0 : Nat} {cA0 : ClassId} (ht : tys[t0]? = some (cA0, ty)) (hra : ∀ c1 : ClassId, va_RA s c1 ty → s.vm.findClass ("[" ++ ty.toString) = some c1)
    {n : Int32} {N' : Nat} {a0 : vp_A} (ha : ∀ cA : ClassId, vp_cell cA a0 = arrV cA N' (fun _ => defaultValue ty)) (hn : ¬ n < 0) (hN : n.toNatClampNeg = N') (hbytes : N' * componentBytes ty ≤ 536870912) (hcells : cells + 1 ≤ R.cells) (hslots : slots + N' ≤ R.slots) (hdg : decode cc pc = .ok (.newarray atype, 2))
    (kk : ∀ (q : Nat) (H1 : Heap), va_P D cl (ws ++ [(q, .inl (cA0, a0))]) H1 → va_D A (ws ++ [(q, .inl (cA0, a0))]) → va_S A H0 H1 locs →
      W p l e R s m args below meth c H1 locs (cells + 1) (slots + N') Q (F0 m (pc + 2) ls (.ref q :: rest))) : W p l e R s m args below meth c H locs cells slots Q (F0 m pc ls (.int n :: rest)) := by
  refine va_newa hexec hb harr hty hK hP hD hS hA ha hn hN hbytes hcells hslots hdg (fun q cA H1 hK1 hP1 hD1 hS1 => ?_)
  have h1 := hra cA (hK1.2 tys.length (cA, ty) (by rw [List.getElem?_append_right (Nat.le_refl _), Nat.sub_self]; rfl)).2
  have h2 := hra cA0 (hK.2 t0 _ ht).2
  have e1 : cA = cA0 := Option.some.inj (h1.symm.trans h2)
  subst e1
  exact kk q H1 hP1 hD1 hS1
end VVS
section VVR
variable {p : Program} {l : Launch} {e : Env} {R : Room} {s : State} {m : MethodId} {below : List Frame} {meth : Method} {c : Code} {H : Heap} {locs : List Loc} {cells slots : Nat}
variable {cc : ByteArray} {pc : Nat} {ls : Array Slot} {D : va_G} {tys : List (ClassId × FieldType)} {S : Type} {f : S → va_W} {av : Array Value} {A : Nat → Prop}
theorem vv_iret {post : Int32 → S → Prop} {v : Int32} (u : S) (hexec : p.tables.exec = Jvm.exec) (hb : c.code = cc) (hr : meth.sig.returnType = some .int) (hlocks : meth.locks = false) (h : post v u) (hK : va_K D vwCl tys s) (hP : va_P D vwCl (f u) H) (hD : va_D A (f u)) (hS : va_S A s.heap H locs) (hdg : decode cc pc = .ok (.ireturn, 1)) :
    W p l e R s m av below meth c H locs cells slots (MQ below (va_Qi post (vv_E D tys A f) A) av s cells slots A) (F0 m pc ls [.int v]) :=
  W.iret hexec hb hr (fun t ht hW => ⟨⟨v, u, rfl, h, by rw [ht]; exact hP, va_K.moved hW.alike hK, hD⟩, hS.F ht⟩) hS.2.2 hdg hlocks
theorem vv_zret {post : Int32 → S → Prop} {v : Int32} (u : S) (hexec : p.tables.exec = Jvm.exec) (hb : c.code = cc) (hr : meth.sig.returnType = some .boolean) (hlocks : meth.locks = false) (hbo : vv_bo v) (h : post v u) (hK : va_K D vwCl tys s) (hP : va_P D vwCl (f u) H) (hD : va_D A (f u)) (hS : va_S A s.heap H locs) (hdg : decode cc pc = .ok (.ireturn, 1)) :
    W p l e R s m av below meth c H locs cells slots (MQ below (va_Qi post (vv_E D tys A f) A) av s cells slots A) (F0 m pc ls [.int v]) :=
  W.zret hexec hb hr hbo (fun t ht hW => ⟨⟨v, u, rfl, h, by rw [ht]; exact hP, va_K.moved hW.alike hK, hD⟩, hS.F ht⟩) hS.2.2 hdg hlocks
theorem vv_lret {post : Int64 → S → Prop} {v : Int64} (u : S) (hexec : p.tables.exec = Jvm.exec) (hb : c.code = cc) (hr : meth.sig.returnType = some .long) (hlocks : meth.locks = false) (h : post v u) (hK : va_K D vwCl tys s) (hP : va_P D vwCl (f u) H) (hD : va_D A (f u)) (hS : va_S A s.heap H locs) (hdg : decode cc pc = .ok (.lreturn, 1)) :
    W p l e R s m av below meth c H locs cells slots (MQ below (va_Ql post (vv_E D tys A f) A) av s cells slots A) (F0 m pc ls [.long v]) :=
  W.lret hexec hb hr (fun t ht hW => ⟨⟨v, u, rfl, h, by rw [ht]; exact hP, va_K.moved hW.alike hK, hD⟩, hS.F ht⟩) hS.2.2 hdg hlocks
theorem vv_vret {post : S → Prop} (u : S) (hexec : p.tables.exec = Jvm.exec) (hb : c.code = cc) (hr : meth.sig.returnType = none) (hlocks : meth.locks = false) (h : post u) (hK : va_K D vwCl tys s) (hP : va_P D vwCl (f u) H) (hD : va_D A (f u)) (hS : va_S A s.heap H locs) (hdg : decode cc pc = .ok (.return_, 1)) :
    W p l e R s m av below meth c H locs cells slots (MQ below (va_Qv post (vv_E D tys A f) A) av s cells slots A) (F0 m pc ls []) :=
  W.vret hexec hb hr (fun t ht hW => ⟨⟨u, rfl, h, by rw [ht]; exact hP, va_K.moved hW.alike hK, hD⟩, hS.F ht⟩) hS.2.2 hdg hlocks
end VVR
end
section
abbrev wd_X0_greatestDay (cI cJ cZ : ClassId) (a0 a_from a_to a_amount a_day a_order : Nat) (v_count : Int32) (f_day : (Nat → Int64)) (f_order : (Nat → Int32)) : va_W := [(a0, .inr (0, [.int v_count, .ref a_from, .ref a_to, .ref a_amount, .ref a_day, .ref a_order])), (a_day, .inl (cJ, 400, .inr (.inl f_day))), (a_order, .inl (cI, 400, .inl f_order))]
abbrev rm_X0_greatestDay : Room := { frames := 0, cells := 0, slots := 0, locals := 0 }
def wp_X0_greatestDay (post : Int64 → Prop) (v_count : Int32) (f_day : (Nat → Int64)) (f_order : (Nat → Int32)) : Prop := ((¬ v_count = 0 → (vp_in (v_count - 1) 400 ∧ (vp_in (f_order (v_count - 1).toNatClampNeg) 400 ∧ (post (f_day (f_order (v_count - 1).toNatClampNeg).toNatClampNeg))))) ∧ (v_count = 0 → post 0))
set_option maxHeartbeats 4000000 in
set_option maxRecDepth 100000 in
theorem cw_X0_greatestDay (l : Launch) (dC : Nat → ClassId) (dI : Nat → Nat → Nat) (cI cJ cZ : ClassId) (a0 a_from a_to a_amount a_day a_order : Nat) (sz : Nat) (v_count : Int32) (f_day : (Nat → Int64)) (f_order : (Nat → Int32)) (post : Int64 → Prop) (h : wp_X0_greatestDay post v_count f_day f_order) : Met l yX0_greatestDay wsX0_greatestDay rm_X0_greatestDay (va_Pc [.ref a0] (vv_B (dC, dI) (vv_ty cI cJ cZ) (wd_X0_greatestDay cI cJ cZ a0 a_from a_to a_amount a_day a_order v_count f_day f_order) sz)) (va_Ql (fun r (_u : Unit) => post r) (vv_E (dC, dI) (vv_ty cI cJ cZ) (va_A (wd_X0_greatestDay cI cJ cZ a0 a_from a_to a_amount a_day a_order v_count f_day f_order) sz) (fun _u : Unit => wd_X0_greatestDay cI cJ cZ a0 a_from a_to a_amount a_day a_order v_count f_day f_order)) (va_A (wd_X0_greatestDay cI cJ cZ a0 a_from a_to a_amount a_day a_order v_count f_day f_order) sz)) 0 0 (va_A (wd_X0_greatestDay cI cJ cZ a0 a_from a_to a_amount a_day a_order v_count f_day f_order) sz) := by
  refine Met.ofW (cc := cX0_greatestDay) (maxL := 1) (ret := (some .long)) (by decide) rfl ?_
  intro p e s m args below meth c s₁ B hml hv
  obtain ⟨hav, hsz, hP, hK, hD0⟩ := hv
  have hx := B.exec
  have hb := B.bytes
  have hr := B.returns
  have hts := atoms_spec (ws := wsX0_greatestDay) B.pre
  have hown : s.vm.findClass RX0 = some m.cls := findClass_of_methodNamed B.named
  have hlocks := B.notSynchronized
  subst hsz
  have hD := hD0.self (sz := s.heap.size)
  clear hD0
  generalize hAe : va_A (wd_X0_greatestDay cI cJ cZ a0 a_from a_to a_amount a_day a_order v_count f_day f_order) s.heap.size = A at hD ⊢
  have hA : ∀ q : Nat, s.heap.size ≤ q → A q := fun q h => by rw [← hAe]; exact Or.inr h
  clear hAe
  have hS : va_S A s.heap s.heap [] := va_S.rf
  have hl := lv_entry ([.ref a0]) (n := 1) (Nat.le_of_ble_eq_true rfl)
  subst hav
  rw [lg_entry_eq]
  generalize (lg_sl ([.ref a0]) ++ List.replicate (1 - (lg_sl ([.ref a0])).length) Slot.unset).toArray = ls at hl ⊢
  replace hl : lv_has ls 1 [(0, .ref a0)] := hl
  clear B
  generalize (([.ref a0] : List Value)).toArray = av at hts ⊢
  suffices MAIN : ∀ Q : State → Prop, (∀ (v : Int64) (H : Heap) (locs : List Loc) (ls : Array Slot) (pc : Nat), post v → va_P (dC, dI) vwCl (wd_X0_greatestDay cI cJ cZ a0 a_from a_to a_amount a_day a_order v_count f_day f_order) H → va_D A (wd_X0_greatestDay cI cJ cZ a0 a_from a_to a_amount a_day a_order v_count f_day f_order) → va_S A s.heap H locs → decode cX0_greatestDay pc = .ok (.lreturn, 1) → W p l e rm_X0_greatestDay s m av below meth c H locs 0 0 Q (F0 m pc ls [.long v])) → W p l e rm_X0_greatestDay s m av below meth c s.heap [] 0 0 Q (F0 m 0 ls []) from MAIN _ (fun v H locs ls pc h hP hD hS hd => vv_lret () hx hb hr hlocks h hK hP hD hS hd)
  intro Q RET
  have fl22 := hts (.fieldLink RX0 22 "LotFlows$Flows" "day" "[J") (by decide +kernel)
  have fl25 := hts (.fieldLink RX0 25 "LotFlows$Flows" "order" "[I") (by decide +kernel)
  have fl28 := hts (.fieldLink RX0 28 "LotFlows$Flows" "count" "I") (by decide +kernel)
  have in_X0 : ∀ w ∈ wsX00, w ∈ wsX0_greatestDay := by decide +kernel
  suffices START : ∀ (H : Heap) (locs : List Loc), va_P (dC, dI) vwCl (wd_X0_greatestDay cI cJ cZ a0 a_from a_to a_amount a_day a_order v_count f_day f_order) H → va_D A (wd_X0_greatestDay cI cJ cZ a0 a_from a_to a_amount a_day a_order v_count f_day f_order) → va_S A s.heap H locs → W p l e rm_X0_greatestDay s m av below meth c H locs 0 0 Q (F0 m 0 ls []) from START s.heap [] hP hD hS
  clear hP hD hS
  intro H locs hP hD hS
  refine lv_aload_n hx hb dX0_greatestDay_0 rfl (lv_at hl 0 rfl) ?_
  refine va_get (D := (dC, dI)) (ci := 0) (v := .int v_count) (C := RX0) (T := TX0) (N := 6) hx hb hts in_X0 hown hK hP 0 rfl rfl 0 (by decide) fl28 (fun _ h9 => h9) rfl dX0_greatestDay_1 ?_
  refine lv_if_ne (tgt := 11) hx hb dX0_greatestDay_4 (by decide) (fun c_1 => ?_) (fun c_1 => ?_)
  · replace h := h.1 c_1
    refine lv_aload_n hx hb dX0_greatestDay_11 rfl (lv_at hl 0 rfl) ?_
    refine va_get (D := (dC, dI)) (ci := 0) (v := .ref a_day) (C := RX0) (T := TX0) (N := 6) hx hb hts in_X0 hown hK hP 0 rfl rfl 4 (by decide) fl22 (fun _ h9 => h9) rfl dX0_greatestDay_12 ?_
    refine lv_aload_n hx hb dX0_greatestDay_15 rfl (lv_at hl 0 rfl) ?_
    refine va_get (D := (dC, dI)) (ci := 0) (v := .ref a_order) (C := RX0) (T := TX0) (N := 6) hx hb hts in_X0 hown hK hP 0 rfl rfl 5 (by decide) fl25 (fun _ h9 => h9) rfl dX0_greatestDay_16 ?_
    refine lv_aload_n hx hb dX0_greatestDay_19 rfl (lv_at hl 0 rfl) ?_
    refine va_get (D := (dC, dI)) (ci := 0) (v := .int v_count) (C := RX0) (T := TX0) (N := 6) hx hb hts in_X0 hown hK hP 0 rfl rfl 0 (by decide) fl28 (fun _ h9 => h9) rfl dX0_greatestDay_20 ?_
    refine lv_iconst (v := 1) hx hb dX0_greatestDay_23 (by decide) ?_
    refine lv_isub hx hb dX0_greatestDay_24 ?_
    obtain ⟨hi_2, h⟩ := h
    refine va_iald hx hb hK hP 2 0 rfl rfl hi_2 dX0_greatestDay_25 ?_
    obtain ⟨hi_3, h⟩ := h
    refine va_lald hx hb hK hP 1 1 rfl rfl hi_3 dX0_greatestDay_26 ?_
    exact RET (f_day (f_order (v_count - 1).toNatClampNeg).toNatClampNeg) H locs ls 27 h hP hD hS dX0_greatestDay_27
  · replace h := h.2 c_1
    refine lv_lconst (v := 0) hx hb dX0_greatestDay_7 (by decide) ?_
    refine lv_goto (tgt := 27) hx hb dX0_greatestDay_8 (by decide) ?_
    exact RET 0 H locs ls 27 h hP hD hS dX0_greatestDay_27

abbrev wd_X0_turnFor (cI cJ cZ : ClassId) (a0 a_from a_to a_amount a_day a_order : Nat) (v_count : Int32) (f_day : (Nat → Int64)) (f_order : (Nat → Int32)) : va_W := [(a0, .inr (0, [.int v_count, .ref a_from, .ref a_to, .ref a_amount, .ref a_day, .ref a_order])), (a_day, .inl (cJ, 400, .inr (.inl f_day))), (a_order, .inl (cI, 400, .inl f_order))]
abbrev rm_X0_turnFor : Room := { frames := 0, cells := 0, slots := 0, locals := 0 }
def wb_X0_turnFor_5 (post : Int32 → Prop) (v_count : Int32) (f_day : (Nat → Int64)) (f_order : (Nat → Int32)) : Nat → Int64 → Int32 → Prop
  | 0 => fun _ _ => False
  | n + 1 => fun x1 x3 => ((x3 ≤ 0 → post x3) ∧ (¬ x3 ≤ 0 → (vp_in (x3 - 1) 400 ∧ (vp_in (f_order (x3 - 1).toNatClampNeg) 400 ∧ (((¬ x1 < (f_day (f_order (x3 - 1).toNatClampNeg).toNatClampNeg) → post x3) ∧ (x1 < (f_day (f_order (x3 - 1).toNatClampNeg).toNatClampNeg) → (∀ x_5 : Int32, x_5 = x3 + (-1) → wb_X0_turnFor_5 post v_count f_day f_order  n x1 x_5))))))))
def wp_X0_turnFor (post : Int32 → Prop) (v_count : Int32) (f_day : (Nat → Int64)) (f_order : (Nat → Int32)) (p1 : Int64) : Prop := (∃ n_5 : Nat, wb_X0_turnFor_5 post v_count f_day f_order n_5 p1 v_count)
set_option maxHeartbeats 4000000 in
set_option maxRecDepth 100000 in
theorem cw_X0_turnFor (l : Launch) (dC : Nat → ClassId) (dI : Nat → Nat → Nat) (cI cJ cZ : ClassId) (a0 a_from a_to a_amount a_day a_order : Nat) (sz : Nat) (v_count : Int32) (f_day : (Nat → Int64)) (f_order : (Nat → Int32)) (p1 : Int64) (post : Int32 → Prop) (h : wp_X0_turnFor post v_count f_day f_order p1) : Met l yX0_turnFor wsX0_turnFor rm_X0_turnFor (va_Pc [.ref a0, .long p1] (vv_B (dC, dI) (vv_ty cI cJ cZ) (wd_X0_turnFor cI cJ cZ a0 a_from a_to a_amount a_day a_order v_count f_day f_order) sz)) (va_Qi (fun r (_u : Unit) => post r) (vv_E (dC, dI) (vv_ty cI cJ cZ) (va_A (wd_X0_turnFor cI cJ cZ a0 a_from a_to a_amount a_day a_order v_count f_day f_order) sz) (fun _u : Unit => wd_X0_turnFor cI cJ cZ a0 a_from a_to a_amount a_day a_order v_count f_day f_order)) (va_A (wd_X0_turnFor cI cJ cZ a0 a_from a_to a_amount a_day a_order v_count f_day f_order) sz)) 0 0 (va_A (wd_X0_turnFor cI cJ cZ a0 a_from a_to a_amount a_day a_order v_count f_day f_order) sz) := by
  refine Met.ofW (cc := cX0_turnFor) (maxL := 4) (ret := (some .int)) (by decide) rfl ?_
  intro p e s m args below meth c s₁ B hml hv
  obtain ⟨hav, hsz, hP, hK, hD0⟩ := hv
  have hx := B.exec
  have hb := B.bytes
  have hr := B.returns
  have hts := atoms_spec (ws := wsX0_turnFor) B.pre
  have hown : s.vm.findClass RX0 = some m.cls := findClass_of_methodNamed B.named
  have hlocks := B.notSynchronized
  subst hsz
  have hD := hD0.self (sz := s.heap.size)
  clear hD0
  generalize hAe : va_A (wd_X0_turnFor cI cJ cZ a0 a_from a_to a_amount a_day a_order v_count f_day f_order) s.heap.size = A at hD ⊢
  have hA : ∀ q : Nat, s.heap.size ≤ q → A q := fun q h => by rw [← hAe]; exact Or.inr h
  clear hAe
  have hS : va_S A s.heap s.heap [] := va_S.rf
  have hl := lv_entry ([.ref a0, .long p1]) (n := 4) (Nat.le_of_ble_eq_true rfl)
  subst hav
  rw [lg_entry_eq]
  generalize (lg_sl ([.ref a0, .long p1]) ++ List.replicate (4 - (lg_sl ([.ref a0, .long p1])).length) Slot.unset).toArray = ls at hl ⊢
  replace hl : lv_has ls 4 [(0, .ref a0), (1, .long p1)] := hl
  clear B
  generalize (([.ref a0, .long p1] : List Value)).toArray = av at hts ⊢
  suffices MAIN : ∀ Q : State → Prop, (∀ (v : Int32) (H : Heap) (locs : List Loc) (ls : Array Slot) (pc : Nat), post v → va_P (dC, dI) vwCl (wd_X0_turnFor cI cJ cZ a0 a_from a_to a_amount a_day a_order v_count f_day f_order) H → va_D A (wd_X0_turnFor cI cJ cZ a0 a_from a_to a_amount a_day a_order v_count f_day f_order) → va_S A s.heap H locs → decode cX0_turnFor pc = .ok (.ireturn, 1) → W p l e rm_X0_turnFor s m av below meth c H locs 0 0 Q (F0 m pc ls [.int v])) → W p l e rm_X0_turnFor s m av below meth c s.heap [] 0 0 Q (F0 m 0 ls []) from MAIN _ (fun v H locs ls pc h hP hD hS hd => vv_iret () hx hb hr hlocks h hK hP hD hS hd)
  intro Q RET
  have fl22 := hts (.fieldLink RX0 22 "LotFlows$Flows" "day" "[J") (by decide +kernel)
  have fl25 := hts (.fieldLink RX0 25 "LotFlows$Flows" "order" "[I") (by decide +kernel)
  have fl28 := hts (.fieldLink RX0 28 "LotFlows$Flows" "count" "I") (by decide +kernel)
  have in_X0 : ∀ w ∈ wsX00, w ∈ wsX0_turnFor := by decide +kernel
  have bk_5 : ∀ n : Nat, ∀ (x1 : Int64) (x3 : Int32) (H : Heap) (locs : List Loc) (ls : Array Slot), va_P (dC, dI) vwCl (wd_X0_turnFor cI cJ cZ a0 a_from a_to a_amount a_day a_order v_count f_day f_order) H → va_D A (wd_X0_turnFor cI cJ cZ a0 a_from a_to a_amount a_day a_order v_count f_day f_order) → va_S A s.heap H locs → lv_has ls 4 [(0, .ref a0), (1, .long x1), (3, .int x3)] → wb_X0_turnFor_5 post v_count f_day f_order n x1 x3 → W p l e rm_X0_turnFor s m av below meth c H locs 0 0 Q (F0 m 5 ls []) := by
    intro n
    induction n with
    | zero =>
      intro x1 x3 H locs ls hP hD hS hl h
      exact False.elim h
    | succ n ih5 =>
      intro x1 x3 H locs ls hP hD hS hl h
      refine lv_iload_n hx hb dX0_turnFor_5 rfl (lv_at hl 2 rfl) ?_
      refine lv_if_le (tgt := 33) hx hb dX0_turnFor_6 (by decide) (fun c_1 => ?_) (fun c_1 => ?_)
      · replace h := h.1 c_1
        refine lv_iload_n hx hb dX0_turnFor_33 rfl (lv_at hl 2 rfl) ?_
        exact RET x3 H locs ls 34 h hP hD hS dX0_turnFor_34
      · replace h := h.2 c_1
        refine lv_aload_n hx hb dX0_turnFor_9 rfl (lv_at hl 0 rfl) ?_
        refine va_get (D := (dC, dI)) (ci := 0) (v := .ref a_day) (C := RX0) (T := TX0) (N := 6) hx hb hts in_X0 hown hK hP 0 rfl rfl 4 (by decide) fl22 (fun _ h9 => h9) rfl dX0_turnFor_10 ?_
        refine lv_aload_n hx hb dX0_turnFor_13 rfl (lv_at hl 0 rfl) ?_
        refine va_get (D := (dC, dI)) (ci := 0) (v := .ref a_order) (C := RX0) (T := TX0) (N := 6) hx hb hts in_X0 hown hK hP 0 rfl rfl 5 (by decide) fl25 (fun _ h9 => h9) rfl dX0_turnFor_14 ?_
        refine lv_iload_n hx hb dX0_turnFor_17 rfl (lv_at hl 2 rfl) ?_
        refine lv_iconst (v := 1) hx hb dX0_turnFor_18 (by decide) ?_
        refine lv_isub hx hb dX0_turnFor_19 ?_
        obtain ⟨hi_2, h⟩ := h
        refine va_iald hx hb hK hP 2 0 rfl rfl hi_2 dX0_turnFor_20 ?_
        obtain ⟨hi_3, h⟩ := h
        refine va_lald hx hb hK hP 1 1 rfl rfl hi_3 dX0_turnFor_21 ?_
        refine lv_lload_n hx hb dX0_turnFor_22 rfl (lv_at hl 1 rfl) ?_
        refine vv_lcmp_le (tgt := 33) hx hb dX0_turnFor_23 dX0_turnFor_24 (by decide) (fun c_4 => ?_) (fun c_4 => ?_)
        · replace h := h.1 c_4
          refine lv_iload_n hx hb dX0_turnFor_33 rfl (lv_at hl 2 rfl) ?_
          exact RET x3 H locs ls 34 h hP hD hS dX0_turnFor_34
        · replace h := h.2 c_4
          obtain ⟨x_5, ex_5⟩ : ∃ y : Int32, y = x3 + (-1) := ⟨_, rfl⟩
          replace h := h x_5 ex_5
          refine lv_iinc (v := x_5) (lv' := [(3, .int x_5), (0, .ref a0), (1, .long x1)]) hx hb dX0_turnFor_27 hl (k := 2) rfl (by rw [ex_5]; rfl) (by decide) rfl (fun ls hl => ?_)
          refine lv_goto (tgt := 5) hx hb dX0_turnFor_30 (by decide) ?_
          exact ih5 x1 x_5 H locs ls hP hD hS (lv_sub hl [1, 2, 0] rfl) h
  suffices START : ∀ (H : Heap) (locs : List Loc), va_P (dC, dI) vwCl (wd_X0_turnFor cI cJ cZ a0 a_from a_to a_amount a_day a_order v_count f_day f_order) H → va_D A (wd_X0_turnFor cI cJ cZ a0 a_from a_to a_amount a_day a_order v_count f_day f_order) → va_S A s.heap H locs → W p l e rm_X0_turnFor s m av below meth c H locs 0 0 Q (F0 m 0 ls []) from START s.heap [] hP hD hS
  clear hP hD hS
  intro H locs hP hD hS
  refine lv_aload_n hx hb dX0_turnFor_0 rfl (lv_at hl 0 rfl) ?_
  refine va_get (D := (dC, dI)) (ci := 0) (v := .int v_count) (C := RX0) (T := TX0) (N := 6) hx hb hts in_X0 hown hK hP 0 rfl rfl 0 (by decide) fl28 (fun _ h9 => h9) rfl dX0_turnFor_1 ?_
  refine lv_istore_n (lv' := [(3, .int v_count), (0, .ref a0), (1, .long p1)]) hx hb dX0_turnFor_4 rfl hl (by decide) rfl (fun ls hl => ?_)
  obtain ⟨n_5, h⟩ := h
  exact bk_5 n_5 p1 v_count H locs ls hP hD hS (lv_sub hl [1, 2, 0] rfl) h

abbrev wd_X0_insert (cI cJ cZ : ClassId) (a0 a_from a_to a_amount a_day a_order : Nat) (v_count : Int32) (f_from : (Nat → Int32)) (f_to : (Nat → Int32)) (f_amount : (Nat → Int64)) (f_day : (Nat → Int64)) (f_order : (Nat → Int32)) : va_W := [(a0, .inr (0, [.int v_count, .ref a_from, .ref a_to, .ref a_amount, .ref a_day, .ref a_order])), (a_from, .inl (cI, 400, .inl f_from)), (a_to, .inl (cI, 400, .inl f_to)), (a_amount, .inl (cJ, 400, .inr (.inl f_amount))), (a_day, .inl (cJ, 400, .inr (.inl f_day))), (a_order, .inl (cI, 400, .inl f_order))]
abbrev rm_X0_insert : Room := { frames := 0, cells := 0, slots := 0, locals := 0 }
def wb_X0_insert_71 (post : Int32 → (Nat → Int32) → (Nat → Int32) → (Nat → Int64) → (Nat → Int64) → (Nat → Int32) → Prop) : Nat → Int32 → Int32 → Int32 → (Nat → Int32) → (Nat → Int32) → (Nat → Int64) → (Nat → Int64) → (Nat → Int32) → Prop
  | 0 => fun _ _ _ _ _ _ _ _ => False
  | n + 1 => fun x1 x8 v_count f_from f_to f_amount f_day f_order => ((x8 ≤ x1 → (vp_in x1 400 ∧ (∀ f_14 : Nat → Int32, f_14 = upd f_order x1.toNatClampNeg v_count → ∀ v_15 : Int32, v_15 = (v_count + 1) → post v_15 f_from f_to f_amount f_day f_14))) ∧ (¬ x8 ≤ x1 → (vp_in (x8 - 1) 400 ∧ (vp_in x8 400 ∧ (∀ f_18 : Nat → Int32, f_18 = upd f_order x8.toNatClampNeg (f_order (x8 - 1).toNatClampNeg) → ∀ x_19 : Int32, x_19 = x8 + (-1) → wb_X0_insert_71 post   n x1 x_19 v_count f_from f_to f_amount f_day f_18)))))
def wp_X0_insert (post : Int32 → (Nat → Int32) → (Nat → Int32) → (Nat → Int64) → (Nat → Int64) → (Nat → Int32) → Prop) (v_count : Int32) (f_from : (Nat → Int32)) (f_to : (Nat → Int32)) (f_amount : (Nat → Int64)) (f_day : (Nat → Int64)) (f_order : (Nat → Int32)) (p1 : Int32) (p2 : Int32) (p3 : Int32) (p4 : Int64) (p5 : Int64) : Prop := ((400 ≤ v_count → post v_count f_from f_to f_amount f_day f_order) ∧ (¬ 400 ≤ v_count → ((p1 < 0 → post v_count f_from f_to f_amount f_day f_order) ∧ (¬ p1 < 0 → ((p1 ≤ v_count → (vp_in v_count 400 ∧ (∀ f_5 : Nat → Int32, f_5 = upd f_from v_count.toNatClampNeg p2 → vp_in v_count 400 ∧ (∀ f_7 : Nat → Int32, f_7 = upd f_to v_count.toNatClampNeg p3 → vp_in v_count 400 ∧ (∀ f_9 : Nat → Int64, f_9 = vp_updL f_amount v_count.toNatClampNeg p4 → vp_in v_count 400 ∧ (∀ f_11 : Nat → Int64, f_11 = vp_updL f_day v_count.toNatClampNeg p5 → (∃ n_71 : Nat, wb_X0_insert_71 post  n_71 p1 v_count v_count f_5 f_7 f_9 f_11 f_order))))))) ∧ (¬ p1 ≤ v_count → post v_count f_from f_to f_amount f_day f_order))))))
set_option maxHeartbeats 4000000 in
set_option maxRecDepth 100000 in
theorem cw_X0_insert (l : Launch) (dC : Nat → ClassId) (dI : Nat → Nat → Nat) (cI cJ cZ : ClassId) (a0 a_from a_to a_amount a_day a_order : Nat) (sz : Nat) (v_count : Int32) (f_from : (Nat → Int32)) (f_to : (Nat → Int32)) (f_amount : (Nat → Int64)) (f_day : (Nat → Int64)) (f_order : (Nat → Int32)) (p1 : Int32) (p2 : Int32) (p3 : Int32) (p4 : Int64) (p5 : Int64) (post : Int32 → (Nat → Int32) → (Nat → Int32) → (Nat → Int64) → (Nat → Int64) → (Nat → Int32) → Prop) (h : wp_X0_insert post v_count f_from f_to f_amount f_day f_order p1 p2 p3 p4 p5) : Met l yX0_insert wsX0_insert rm_X0_insert (va_Pc [.ref a0, .int p1, .int p2, .int p3, .long p4, .long p5] (vv_B (dC, dI) (vv_ty cI cJ cZ) (wd_X0_insert cI cJ cZ a0 a_from a_to a_amount a_day a_order v_count f_from f_to f_amount f_day f_order) sz)) (va_Qv (fun (u : Int32 × (Nat → Int32) × (Nat → Int32) × (Nat → Int64) × (Nat → Int64) × (Nat → Int32)) => post (u.1) (u.2.1) (u.2.2.1) (u.2.2.2.1) (u.2.2.2.2.1) (u.2.2.2.2.2)) (vv_E (dC, dI) (vv_ty cI cJ cZ) (va_A (wd_X0_insert cI cJ cZ a0 a_from a_to a_amount a_day a_order v_count f_from f_to f_amount f_day f_order) sz) (fun u : Int32 × (Nat → Int32) × (Nat → Int32) × (Nat → Int64) × (Nat → Int64) × (Nat → Int32) => wd_X0_insert cI cJ cZ a0 a_from a_to a_amount a_day a_order (u.1) (u.2.1) (u.2.2.1) (u.2.2.2.1) (u.2.2.2.2.1) (u.2.2.2.2.2))) (va_A (wd_X0_insert cI cJ cZ a0 a_from a_to a_amount a_day a_order v_count f_from f_to f_amount f_day f_order) sz)) 0 0 (va_A (wd_X0_insert cI cJ cZ a0 a_from a_to a_amount a_day a_order v_count f_from f_to f_amount f_day f_order) sz) := by
  refine Met.ofW (cc := cX0_insert) (maxL := 9) (ret := none) (by decide) rfl ?_
  intro p e s m args below meth c s₁ B hml hv
  obtain ⟨hav, hsz, hP, hK, hD0⟩ := hv
  have hx := B.exec
  have hb := B.bytes
  have hr := B.returns
  have hts := atoms_spec (ws := wsX0_insert) B.pre
  have hown : s.vm.findClass RX0 = some m.cls := findClass_of_methodNamed B.named
  have hlocks := B.notSynchronized
  subst hsz
  have hD := hD0.self (sz := s.heap.size)
  clear hD0
  generalize hAe : va_A (wd_X0_insert cI cJ cZ a0 a_from a_to a_amount a_day a_order v_count f_from f_to f_amount f_day f_order) s.heap.size = A at hD ⊢
  have hA : ∀ q : Nat, s.heap.size ≤ q → A q := fun q h => by rw [← hAe]; exact Or.inr h
  clear hAe
  have hS : va_S A s.heap s.heap [] := va_S.rf
  have hl := lv_entry ([.ref a0, .int p1, .int p2, .int p3, .long p4, .long p5]) (n := 9) (Nat.le_of_ble_eq_true rfl)
  subst hav
  rw [lg_entry_eq]
  generalize (lg_sl ([.ref a0, .int p1, .int p2, .int p3, .long p4, .long p5]) ++ List.replicate (9 - (lg_sl ([.ref a0, .int p1, .int p2, .int p3, .long p4, .long p5])).length) Slot.unset).toArray = ls at hl ⊢
  replace hl : lv_has ls 9 [(0, .ref a0), (1, .int p1), (2, .int p2), (3, .int p3), (4, .long p4), (6, .long p5)] := hl
  clear B
  generalize (([.ref a0, .int p1, .int p2, .int p3, .long p4, .long p5] : List Value)).toArray = av at hts ⊢
  suffices MAIN : ∀ Q : State → Prop, (∀ (v_count : Int32) (f_from : (Nat → Int32)) (f_to : (Nat → Int32)) (f_amount : (Nat → Int64)) (f_day : (Nat → Int64)) (f_order : (Nat → Int32)) (H : Heap) (locs : List Loc) (ls : Array Slot) (pc : Nat), post v_count f_from f_to f_amount f_day f_order → va_P (dC, dI) vwCl (wd_X0_insert cI cJ cZ a0 a_from a_to a_amount a_day a_order v_count f_from f_to f_amount f_day f_order) H → va_D A (wd_X0_insert cI cJ cZ a0 a_from a_to a_amount a_day a_order v_count f_from f_to f_amount f_day f_order) → va_S A s.heap H locs → decode cX0_insert pc = .ok (.return_, 1) → W p l e rm_X0_insert s m av below meth c H locs 0 0 Q (F0 m pc ls [])) → W p l e rm_X0_insert s m av below meth c s.heap [] 0 0 Q (F0 m 0 ls []) from MAIN _ (fun v_count f_from f_to f_amount f_day f_order H locs ls pc h hP hD hS hd => vv_vret (v_count, f_from, f_to, f_amount, f_day, f_order) hx hb hr hlocks h hK hP hD hS hd)
  intro Q RET
  have fl9 := hts (.fieldLink RX0 9 "LotFlows$Flows" "from" "[I") (by decide +kernel)
  have fl15 := hts (.fieldLink RX0 15 "LotFlows$Flows" "to" "[I") (by decide +kernel)
  have fl18 := hts (.fieldLink RX0 18 "LotFlows$Flows" "amount" "[J") (by decide +kernel)
  have fl22 := hts (.fieldLink RX0 22 "LotFlows$Flows" "day" "[J") (by decide +kernel)
  have fl25 := hts (.fieldLink RX0 25 "LotFlows$Flows" "order" "[I") (by decide +kernel)
  have fl28 := hts (.fieldLink RX0 28 "LotFlows$Flows" "count" "I") (by decide +kernel)
  have in_X0 : ∀ w ∈ wsX00, w ∈ wsX0_insert := by decide +kernel
  have bk_71 : ∀ n : Nat, ∀ (x1 : Int32) (x8 : Int32) (v_count : Int32) (f_from : (Nat → Int32)) (f_to : (Nat → Int32)) (f_amount : (Nat → Int64)) (f_day : (Nat → Int64)) (f_order : (Nat → Int32)) (H : Heap) (locs : List Loc) (ls : Array Slot), va_P (dC, dI) vwCl (wd_X0_insert cI cJ cZ a0 a_from a_to a_amount a_day a_order v_count f_from f_to f_amount f_day f_order) H → va_D A (wd_X0_insert cI cJ cZ a0 a_from a_to a_amount a_day a_order v_count f_from f_to f_amount f_day f_order) → va_S A s.heap H locs → lv_has ls 9 [(0, .ref a0), (1, .int x1), (8, .int x8)] → wb_X0_insert_71 post  n x1 x8 v_count f_from f_to f_amount f_day f_order → W p l e rm_X0_insert s m av below meth c H locs 0 0 Q (F0 m 71 ls []) := by
    intro n
    induction n with
    | zero =>
      intro x1 x8 v_count f_from f_to f_amount f_day f_order H locs ls hP hD hS hl h
      exact False.elim h
    | succ n ih71 =>
      intro x1 x8 v_count f_from f_to f_amount f_day f_order H locs ls hP hD hS hl h
      refine lv_iload hx hb dX0_insert_71 (lv_at hl 2 rfl) ?_
      refine lv_iload_n hx hb dX0_insert_73 rfl (lv_at hl 1 rfl) ?_
      refine lv_icmp_le (tgt := 99) hx hb dX0_insert_74 (by decide) (fun c_12 => ?_) (fun c_12 => ?_)
      · replace h := h.1 c_12
        refine lv_aload_n hx hb dX0_insert_99 rfl (lv_at hl 0 rfl) ?_
        refine va_get (D := (dC, dI)) (ci := 0) (v := .ref a_order) (C := RX0) (T := TX0) (N := 6) hx hb hts in_X0 hown hK hP 0 rfl rfl 5 (by decide) fl25 (fun _ h9 => h9) rfl dX0_insert_100 ?_
        refine lv_iload_n hx hb dX0_insert_103 rfl (lv_at hl 1 rfl) ?_
        refine lv_aload_n hx hb dX0_insert_104 rfl (lv_at hl 0 rfl) ?_
        refine va_get (D := (dC, dI)) (ci := 0) (v := .int v_count) (C := RX0) (T := TX0) (N := 6) hx hb hts in_X0 hown hK hP 0 rfl rfl 0 (by decide) fl28 (fun _ h9 => h9) rfl dX0_insert_105 ?_
        obtain ⟨hi_13, h⟩ := h
        refine vv_iast hx hb hK hP hD hS 5 0 rfl rfl hi_13 dX0_insert_108 (fun f_14 ef_14 H locs hP hD hS => ?_)
        replace h := h f_14 ef_14
        replace hP : va_P (dC, dI) vwCl (wd_X0_insert cI cJ cZ a0 a_from a_to a_amount a_day a_order v_count f_from f_to f_amount f_day f_14) H := hP
        replace hD : va_D A (wd_X0_insert cI cJ cZ a0 a_from a_to a_amount a_day a_order v_count f_from f_to f_amount f_day f_14) := hD
        refine lv_aload_n hx hb dX0_insert_109 rfl (lv_at hl 0 rfl) ?_
        refine lv_dup hx hb dX0_insert_110 rfl ?_
        refine va_get (D := (dC, dI)) (ci := 0) (v := .int v_count) (C := RX0) (T := TX0) (N := 6) hx hb hts in_X0 hown hK hP 0 rfl rfl 0 (by decide) fl28 (fun _ h9 => h9) rfl dX0_insert_111 ?_
        refine lv_iconst (v := 1) hx hb dX0_insert_114 (by decide) ?_
        refine lv_iadd hx hb dX0_insert_115 ?_
        refine lv_topi (fun v_15 ev_15 => ?_)
        replace h := h v_15 ev_15
        refine va_put (D := (dC, dI)) (ci := 0) (v := .int v_15) (ty := .int) (C := RX0) (T := TX0) (N := 6) hx hb hts in_X0 tyX0 tyX0_ok nmX0 hown hK hP hD hS 0 rfl rfl 0 (by decide) fl28 (fun _ h9 => h9) rfl (by decide +kernel) rfl rfl (Nat.le_of_ble_eq_true rfl) dX0_insert_116 (fun H locs hP hD hS => ?_)
        replace hP : va_P (dC, dI) vwCl (wd_X0_insert cI cJ cZ a0 a_from a_to a_amount a_day a_order v_15 f_from f_to f_amount f_day f_14) H := hP
        replace hD : va_D A (wd_X0_insert cI cJ cZ a0 a_from a_to a_amount a_day a_order v_15 f_from f_to f_amount f_day f_14) := hD
        exact RET v_15 f_from f_to f_amount f_day f_14 H locs ls 119 h hP hD hS dX0_insert_119
      · replace h := h.2 c_12
        refine lv_aload_n hx hb dX0_insert_77 rfl (lv_at hl 0 rfl) ?_
        refine va_get (D := (dC, dI)) (ci := 0) (v := .ref a_order) (C := RX0) (T := TX0) (N := 6) hx hb hts in_X0 hown hK hP 0 rfl rfl 5 (by decide) fl25 (fun _ h9 => h9) rfl dX0_insert_78 ?_
        refine lv_iload hx hb dX0_insert_81 (lv_at hl 2 rfl) ?_
        refine lv_aload_n hx hb dX0_insert_83 rfl (lv_at hl 0 rfl) ?_
        refine va_get (D := (dC, dI)) (ci := 0) (v := .ref a_order) (C := RX0) (T := TX0) (N := 6) hx hb hts in_X0 hown hK hP 0 rfl rfl 5 (by decide) fl25 (fun _ h9 => h9) rfl dX0_insert_84 ?_
        refine lv_iload hx hb dX0_insert_87 (lv_at hl 2 rfl) ?_
        refine lv_iconst (v := 1) hx hb dX0_insert_89 (by decide) ?_
        refine lv_isub hx hb dX0_insert_90 ?_
        obtain ⟨hi_16, h⟩ := h
        refine va_iald hx hb hK hP 5 0 rfl rfl hi_16 dX0_insert_91 ?_
        obtain ⟨hi_17, h⟩ := h
        refine vv_iast hx hb hK hP hD hS 5 0 rfl rfl hi_17 dX0_insert_92 (fun f_18 ef_18 H locs hP hD hS => ?_)
        replace h := h f_18 ef_18
        replace hP : va_P (dC, dI) vwCl (wd_X0_insert cI cJ cZ a0 a_from a_to a_amount a_day a_order v_count f_from f_to f_amount f_day f_18) H := hP
        replace hD : va_D A (wd_X0_insert cI cJ cZ a0 a_from a_to a_amount a_day a_order v_count f_from f_to f_amount f_day f_18) := hD
        obtain ⟨x_19, ex_19⟩ : ∃ y : Int32, y = x8 + (-1) := ⟨_, rfl⟩
        replace h := h x_19 ex_19
        refine lv_iinc (v := x_19) (lv' := [(8, .int x_19), (0, .ref a0), (1, .int x1)]) hx hb dX0_insert_93 hl (k := 2) rfl (by rw [ex_19]; rfl) (by decide) rfl (fun ls hl => ?_)
        refine lv_goto (tgt := 71) hx hb dX0_insert_96 (by decide) ?_
        exact ih71 x1 x_19 v_count f_from f_to f_amount f_day f_18 H locs ls hP hD hS (lv_sub hl [1, 2, 0] rfl) h
  suffices START : ∀ (H : Heap) (locs : List Loc), va_P (dC, dI) vwCl (wd_X0_insert cI cJ cZ a0 a_from a_to a_amount a_day a_order v_count f_from f_to f_amount f_day f_order) H → va_D A (wd_X0_insert cI cJ cZ a0 a_from a_to a_amount a_day a_order v_count f_from f_to f_amount f_day f_order) → va_S A s.heap H locs → W p l e rm_X0_insert s m av below meth c H locs 0 0 Q (F0 m 0 ls []) from START s.heap [] hP hD hS
  clear hP hD hS
  intro H locs hP hD hS
  refine lv_aload_n hx hb dX0_insert_0 rfl (lv_at hl 0 rfl) ?_
  refine va_get (D := (dC, dI)) (ci := 0) (v := .int v_count) (C := RX0) (T := TX0) (N := 6) hx hb hts in_X0 hown hK hP 0 rfl rfl 0 (by decide) fl28 (fun _ h9 => h9) rfl dX0_insert_1 ?_
  refine lv_sipush (v := 400) hx hb dX0_insert_4 (by decide) ?_
  refine lv_icmp_ge (tgt := 22) hx hb dX0_insert_7 (by decide) (fun c_1 => ?_) (fun c_1 => ?_)
  · replace h := h.1 c_1
    exact RET v_count f_from f_to f_amount f_day f_order H locs ls 22 h hP hD hS dX0_insert_22
  · replace h := h.2 c_1
    refine lv_iload_n hx hb dX0_insert_10 rfl (lv_at hl 1 rfl) ?_
    refine lv_if_lt (tgt := 22) hx hb dX0_insert_11 (by decide) (fun c_2 => ?_) (fun c_2 => ?_)
    · replace h := h.1 c_2
      exact RET v_count f_from f_to f_amount f_day f_order H locs ls 22 h hP hD hS dX0_insert_22
    · replace h := h.2 c_2
      refine lv_iload_n hx hb dX0_insert_14 rfl (lv_at hl 1 rfl) ?_
      refine lv_aload_n hx hb dX0_insert_15 rfl (lv_at hl 0 rfl) ?_
      refine va_get (D := (dC, dI)) (ci := 0) (v := .int v_count) (C := RX0) (T := TX0) (N := 6) hx hb hts in_X0 hown hK hP 0 rfl rfl 0 (by decide) fl28 (fun _ h9 => h9) rfl dX0_insert_16 ?_
      refine lv_icmp_le (tgt := 23) hx hb dX0_insert_19 (by decide) (fun c_3 => ?_) (fun c_3 => ?_)
      · replace h := h.1 c_3
        refine lv_aload_n hx hb dX0_insert_23 rfl (lv_at hl 0 rfl) ?_
        refine va_get (D := (dC, dI)) (ci := 0) (v := .ref a_from) (C := RX0) (T := TX0) (N := 6) hx hb hts in_X0 hown hK hP 0 rfl rfl 1 (by decide) fl9 (fun _ h9 => h9) rfl dX0_insert_24 ?_
        refine lv_aload_n hx hb dX0_insert_27 rfl (lv_at hl 0 rfl) ?_
        refine va_get (D := (dC, dI)) (ci := 0) (v := .int v_count) (C := RX0) (T := TX0) (N := 6) hx hb hts in_X0 hown hK hP 0 rfl rfl 0 (by decide) fl28 (fun _ h9 => h9) rfl dX0_insert_28 ?_
        refine lv_iload_n hx hb dX0_insert_31 rfl (lv_at hl 2 rfl) ?_
        obtain ⟨hi_4, h⟩ := h
        refine vv_iast hx hb hK hP hD hS 1 0 rfl rfl hi_4 dX0_insert_32 (fun f_5 ef_5 H locs hP hD hS => ?_)
        replace h := h f_5 ef_5
        replace hP : va_P (dC, dI) vwCl (wd_X0_insert cI cJ cZ a0 a_from a_to a_amount a_day a_order v_count f_5 f_to f_amount f_day f_order) H := hP
        replace hD : va_D A (wd_X0_insert cI cJ cZ a0 a_from a_to a_amount a_day a_order v_count f_5 f_to f_amount f_day f_order) := hD
        refine lv_aload_n hx hb dX0_insert_33 rfl (lv_at hl 0 rfl) ?_
        refine va_get (D := (dC, dI)) (ci := 0) (v := .ref a_to) (C := RX0) (T := TX0) (N := 6) hx hb hts in_X0 hown hK hP 0 rfl rfl 2 (by decide) fl15 (fun _ h9 => h9) rfl dX0_insert_34 ?_
        refine lv_aload_n hx hb dX0_insert_37 rfl (lv_at hl 0 rfl) ?_
        refine va_get (D := (dC, dI)) (ci := 0) (v := .int v_count) (C := RX0) (T := TX0) (N := 6) hx hb hts in_X0 hown hK hP 0 rfl rfl 0 (by decide) fl28 (fun _ h9 => h9) rfl dX0_insert_38 ?_
        refine lv_iload_n hx hb dX0_insert_41 rfl (lv_at hl 3 rfl) ?_
        obtain ⟨hi_6, h⟩ := h
        refine vv_iast hx hb hK hP hD hS 2 0 rfl rfl hi_6 dX0_insert_42 (fun f_7 ef_7 H locs hP hD hS => ?_)
        replace h := h f_7 ef_7
        replace hP : va_P (dC, dI) vwCl (wd_X0_insert cI cJ cZ a0 a_from a_to a_amount a_day a_order v_count f_5 f_7 f_amount f_day f_order) H := hP
        replace hD : va_D A (wd_X0_insert cI cJ cZ a0 a_from a_to a_amount a_day a_order v_count f_5 f_7 f_amount f_day f_order) := hD
        refine lv_aload_n hx hb dX0_insert_43 rfl (lv_at hl 0 rfl) ?_
        refine va_get (D := (dC, dI)) (ci := 0) (v := .ref a_amount) (C := RX0) (T := TX0) (N := 6) hx hb hts in_X0 hown hK hP 0 rfl rfl 3 (by decide) fl18 (fun _ h9 => h9) rfl dX0_insert_44 ?_
        refine lv_aload_n hx hb dX0_insert_47 rfl (lv_at hl 0 rfl) ?_
        refine va_get (D := (dC, dI)) (ci := 0) (v := .int v_count) (C := RX0) (T := TX0) (N := 6) hx hb hts in_X0 hown hK hP 0 rfl rfl 0 (by decide) fl28 (fun _ h9 => h9) rfl dX0_insert_48 ?_
        refine lv_lload hx hb dX0_insert_51 (lv_at hl 4 rfl) ?_
        obtain ⟨hi_8, h⟩ := h
        refine vv_last hx hb hK hP hD hS 3 1 rfl rfl hi_8 dX0_insert_53 (fun f_9 ef_9 H locs hP hD hS => ?_)
        replace h := h f_9 ef_9
        replace hP : va_P (dC, dI) vwCl (wd_X0_insert cI cJ cZ a0 a_from a_to a_amount a_day a_order v_count f_5 f_7 f_9 f_day f_order) H := hP
        replace hD : va_D A (wd_X0_insert cI cJ cZ a0 a_from a_to a_amount a_day a_order v_count f_5 f_7 f_9 f_day f_order) := hD
        refine lv_aload_n hx hb dX0_insert_54 rfl (lv_at hl 0 rfl) ?_
        refine va_get (D := (dC, dI)) (ci := 0) (v := .ref a_day) (C := RX0) (T := TX0) (N := 6) hx hb hts in_X0 hown hK hP 0 rfl rfl 4 (by decide) fl22 (fun _ h9 => h9) rfl dX0_insert_55 ?_
        refine lv_aload_n hx hb dX0_insert_58 rfl (lv_at hl 0 rfl) ?_
        refine va_get (D := (dC, dI)) (ci := 0) (v := .int v_count) (C := RX0) (T := TX0) (N := 6) hx hb hts in_X0 hown hK hP 0 rfl rfl 0 (by decide) fl28 (fun _ h9 => h9) rfl dX0_insert_59 ?_
        refine lv_lload hx hb dX0_insert_62 (lv_at hl 5 rfl) ?_
        obtain ⟨hi_10, h⟩ := h
        refine vv_last hx hb hK hP hD hS 4 1 rfl rfl hi_10 dX0_insert_64 (fun f_11 ef_11 H locs hP hD hS => ?_)
        replace h := h f_11 ef_11
        replace hP : va_P (dC, dI) vwCl (wd_X0_insert cI cJ cZ a0 a_from a_to a_amount a_day a_order v_count f_5 f_7 f_9 f_11 f_order) H := hP
        replace hD : va_D A (wd_X0_insert cI cJ cZ a0 a_from a_to a_amount a_day a_order v_count f_5 f_7 f_9 f_11 f_order) := hD
        refine lv_aload_n hx hb dX0_insert_65 rfl (lv_at hl 0 rfl) ?_
        refine va_get (D := (dC, dI)) (ci := 0) (v := .int v_count) (C := RX0) (T := TX0) (N := 6) hx hb hts in_X0 hown hK hP 0 rfl rfl 0 (by decide) fl28 (fun _ h9 => h9) rfl dX0_insert_66 ?_
        refine lv_istore (lv' := [(8, .int v_count), (0, .ref a0), (1, .int p1), (2, .int p2), (3, .int p3), (4, .long p4), (6, .long p5)]) hx hb dX0_insert_69 hl (by decide) rfl (fun ls hl => ?_)
        obtain ⟨n_71, h⟩ := h
        exact bk_71 n_71 p1 v_count v_count f_5 f_7 f_9 f_11 f_order H locs ls hP hD hS (lv_sub hl [1, 2, 0] rfl) h
      · replace h := h.2 c_3
        exact RET v_count f_from f_to f_amount f_day f_order H locs ls 22 h hP hD hS dX0_insert_22

abbrev wd_X0_removeNewest (cI cJ cZ : ClassId) (a0 a_from a_to a_amount a_day a_order : Nat) (v_count : Int32) (f_order : (Nat → Int32)) : va_W := [(a0, .inr (0, [.int v_count, .ref a_from, .ref a_to, .ref a_amount, .ref a_day, .ref a_order])), (a_order, .inl (cI, 400, .inl f_order))]
abbrev rm_X0_removeNewest : Room := { frames := 0, cells := 0, slots := 0, locals := 0 }
def wb_X0_removeNewest_24 (post : Int32 → (Nat → Int32) → Prop) : Nat → Int32 → Int32 → (Nat → Int32) → Prop
  | 0 => fun _ _ _ => False
  | n + 1 => fun x2 v_count f_order => ((v_count ≤ x2 → post v_count f_order) ∧ (¬ v_count ≤ x2 → (vp_in (x2 + 1) 400 ∧ (vp_in x2 400 ∧ (∀ f_7 : Nat → Int32, f_7 = upd f_order x2.toNatClampNeg (f_order (x2 + 1).toNatClampNeg) → ∀ x_8 : Int32, x_8 = x2 + 1 → wb_X0_removeNewest_24 post   n x_8 v_count f_7)))))
def wp_X0_removeNewest (post : Int32 → (Nat → Int32) → Prop) (v_count : Int32) (f_order : (Nat → Int32)) (p1 : Int32) : Prop := ((v_count ≤ 0 → post v_count f_order) ∧ (¬ v_count ≤ 0 → ((0 ≤ p1 → (∀ v_3 : Int32, v_3 = (v_count - 1) → (∃ n_24 : Nat, wb_X0_removeNewest_24 post  n_24 p1 v_3 f_order))) ∧ (¬ 0 ≤ p1 → post v_count f_order))))
set_option maxHeartbeats 4000000 in
set_option maxRecDepth 100000 in
theorem cw_X0_removeNewest (l : Launch) (dC : Nat → ClassId) (dI : Nat → Nat → Nat) (cI cJ cZ : ClassId) (a0 a_from a_to a_amount a_day a_order : Nat) (sz : Nat) (v_count : Int32) (f_order : (Nat → Int32)) (p1 : Int32) (post : Int32 → (Nat → Int32) → Prop) (h : wp_X0_removeNewest post v_count f_order p1) : Met l yX0_removeNewest wsX0_removeNewest rm_X0_removeNewest (va_Pc [.ref a0, .int p1] (vv_B (dC, dI) (vv_ty cI cJ cZ) (wd_X0_removeNewest cI cJ cZ a0 a_from a_to a_amount a_day a_order v_count f_order) sz)) (va_Qv (fun (u : Int32 × (Nat → Int32)) => post (u.1) (u.2)) (vv_E (dC, dI) (vv_ty cI cJ cZ) (va_A (wd_X0_removeNewest cI cJ cZ a0 a_from a_to a_amount a_day a_order v_count f_order) sz) (fun u : Int32 × (Nat → Int32) => wd_X0_removeNewest cI cJ cZ a0 a_from a_to a_amount a_day a_order (u.1) (u.2))) (va_A (wd_X0_removeNewest cI cJ cZ a0 a_from a_to a_amount a_day a_order v_count f_order) sz)) 0 0 (va_A (wd_X0_removeNewest cI cJ cZ a0 a_from a_to a_amount a_day a_order v_count f_order) sz) := by
  refine Met.ofW (cc := cX0_removeNewest) (maxL := 3) (ret := none) (by decide) rfl ?_
  intro p e s m args below meth c s₁ B hml hv
  obtain ⟨hav, hsz, hP, hK, hD0⟩ := hv
  have hx := B.exec
  have hb := B.bytes
  have hr := B.returns
  have hts := atoms_spec (ws := wsX0_removeNewest) B.pre
  have hown : s.vm.findClass RX0 = some m.cls := findClass_of_methodNamed B.named
  have hlocks := B.notSynchronized
  subst hsz
  have hD := hD0.self (sz := s.heap.size)
  clear hD0
  generalize hAe : va_A (wd_X0_removeNewest cI cJ cZ a0 a_from a_to a_amount a_day a_order v_count f_order) s.heap.size = A at hD ⊢
  have hA : ∀ q : Nat, s.heap.size ≤ q → A q := fun q h => by rw [← hAe]; exact Or.inr h
  clear hAe
  have hS : va_S A s.heap s.heap [] := va_S.rf
  have hl := lv_entry ([.ref a0, .int p1]) (n := 3) (Nat.le_of_ble_eq_true rfl)
  subst hav
  rw [lg_entry_eq]
  generalize (lg_sl ([.ref a0, .int p1]) ++ List.replicate (3 - (lg_sl ([.ref a0, .int p1])).length) Slot.unset).toArray = ls at hl ⊢
  replace hl : lv_has ls 3 [(0, .ref a0), (1, .int p1)] := hl
  clear B
  generalize (([.ref a0, .int p1] : List Value)).toArray = av at hts ⊢
  suffices MAIN : ∀ Q : State → Prop, (∀ (v_count : Int32) (f_order : (Nat → Int32)) (H : Heap) (locs : List Loc) (ls : Array Slot) (pc : Nat), post v_count f_order → va_P (dC, dI) vwCl (wd_X0_removeNewest cI cJ cZ a0 a_from a_to a_amount a_day a_order v_count f_order) H → va_D A (wd_X0_removeNewest cI cJ cZ a0 a_from a_to a_amount a_day a_order v_count f_order) → va_S A s.heap H locs → decode cX0_removeNewest pc = .ok (.return_, 1) → W p l e rm_X0_removeNewest s m av below meth c H locs 0 0 Q (F0 m pc ls [])) → W p l e rm_X0_removeNewest s m av below meth c s.heap [] 0 0 Q (F0 m 0 ls []) from MAIN _ (fun v_count f_order H locs ls pc h hP hD hS hd => vv_vret (v_count, f_order) hx hb hr hlocks h hK hP hD hS hd)
  intro Q RET
  have fl25 := hts (.fieldLink RX0 25 "LotFlows$Flows" "order" "[I") (by decide +kernel)
  have fl28 := hts (.fieldLink RX0 28 "LotFlows$Flows" "count" "I") (by decide +kernel)
  have in_X0 : ∀ w ∈ wsX00, w ∈ wsX0_removeNewest := by decide +kernel
  have bk_24 : ∀ n : Nat, ∀ (x2 : Int32) (v_count : Int32) (f_order : (Nat → Int32)) (H : Heap) (locs : List Loc) (ls : Array Slot), va_P (dC, dI) vwCl (wd_X0_removeNewest cI cJ cZ a0 a_from a_to a_amount a_day a_order v_count f_order) H → va_D A (wd_X0_removeNewest cI cJ cZ a0 a_from a_to a_amount a_day a_order v_count f_order) → va_S A s.heap H locs → lv_has ls 3 [(0, .ref a0), (2, .int x2)] → wb_X0_removeNewest_24 post  n x2 v_count f_order → W p l e rm_X0_removeNewest s m av below meth c H locs 0 0 Q (F0 m 24 ls []) := by
    intro n
    induction n with
    | zero =>
      intro x2 v_count f_order H locs ls hP hD hS hl h
      exact False.elim h
    | succ n ih24 =>
      intro x2 v_count f_order H locs ls hP hD hS hl h
      refine lv_iload_n hx hb dX0_removeNewest_24 rfl (lv_at hl 1 rfl) ?_
      refine lv_aload_n hx hb dX0_removeNewest_25 rfl (lv_at hl 0 rfl) ?_
      refine va_get (D := (dC, dI)) (ci := 0) (v := .int v_count) (C := RX0) (T := TX0) (N := 6) hx hb hts in_X0 hown hK hP 0 rfl rfl 0 (by decide) fl28 (fun _ h9 => h9) rfl dX0_removeNewest_26 ?_
      refine lv_icmp_ge (tgt := 52) hx hb dX0_removeNewest_29 (by decide) (fun c_4 => ?_) (fun c_4 => ?_)
      · replace h := h.1 c_4
        exact RET v_count f_order H locs ls 52 h hP hD hS dX0_removeNewest_52
      · replace h := h.2 c_4
        refine lv_aload_n hx hb dX0_removeNewest_32 rfl (lv_at hl 0 rfl) ?_
        refine va_get (D := (dC, dI)) (ci := 0) (v := .ref a_order) (C := RX0) (T := TX0) (N := 6) hx hb hts in_X0 hown hK hP 0 rfl rfl 5 (by decide) fl25 (fun _ h9 => h9) rfl dX0_removeNewest_33 ?_
        refine lv_iload_n hx hb dX0_removeNewest_36 rfl (lv_at hl 1 rfl) ?_
        refine lv_aload_n hx hb dX0_removeNewest_37 rfl (lv_at hl 0 rfl) ?_
        refine va_get (D := (dC, dI)) (ci := 0) (v := .ref a_order) (C := RX0) (T := TX0) (N := 6) hx hb hts in_X0 hown hK hP 0 rfl rfl 5 (by decide) fl25 (fun _ h9 => h9) rfl dX0_removeNewest_38 ?_
        refine lv_iload_n hx hb dX0_removeNewest_41 rfl (lv_at hl 1 rfl) ?_
        refine lv_iconst (v := 1) hx hb dX0_removeNewest_42 (by decide) ?_
        refine lv_iadd hx hb dX0_removeNewest_43 ?_
        obtain ⟨hi_5, h⟩ := h
        refine va_iald hx hb hK hP 1 0 rfl rfl hi_5 dX0_removeNewest_44 ?_
        obtain ⟨hi_6, h⟩ := h
        refine vv_iast hx hb hK hP hD hS 1 0 rfl rfl hi_6 dX0_removeNewest_45 (fun f_7 ef_7 H locs hP hD hS => ?_)
        replace h := h f_7 ef_7
        replace hP : va_P (dC, dI) vwCl (wd_X0_removeNewest cI cJ cZ a0 a_from a_to a_amount a_day a_order v_count f_7) H := hP
        replace hD : va_D A (wd_X0_removeNewest cI cJ cZ a0 a_from a_to a_amount a_day a_order v_count f_7) := hD
        obtain ⟨x_8, ex_8⟩ : ∃ y : Int32, y = x2 + 1 := ⟨_, rfl⟩
        replace h := h x_8 ex_8
        refine lv_iinc (v := x_8) (lv' := [(2, .int x_8), (0, .ref a0)]) hx hb dX0_removeNewest_46 hl (k := 1) rfl (by rw [ex_8]; rfl) (by decide) rfl (fun ls hl => ?_)
        refine lv_goto (tgt := 24) hx hb dX0_removeNewest_49 (by decide) ?_
        exact ih24 x_8 v_count f_7 H locs ls hP hD hS (lv_sub hl [1, 0] rfl) h
  suffices START : ∀ (H : Heap) (locs : List Loc), va_P (dC, dI) vwCl (wd_X0_removeNewest cI cJ cZ a0 a_from a_to a_amount a_day a_order v_count f_order) H → va_D A (wd_X0_removeNewest cI cJ cZ a0 a_from a_to a_amount a_day a_order v_count f_order) → va_S A s.heap H locs → W p l e rm_X0_removeNewest s m av below meth c H locs 0 0 Q (F0 m 0 ls []) from START s.heap [] hP hD hS
  clear hP hD hS
  intro H locs hP hD hS
  refine lv_aload_n hx hb dX0_removeNewest_0 rfl (lv_at hl 0 rfl) ?_
  refine va_get (D := (dC, dI)) (ci := 0) (v := .int v_count) (C := RX0) (T := TX0) (N := 6) hx hb hts in_X0 hown hK hP 0 rfl rfl 0 (by decide) fl28 (fun _ h9 => h9) rfl dX0_removeNewest_1 ?_
  refine lv_if_le (tgt := 11) hx hb dX0_removeNewest_4 (by decide) (fun c_1 => ?_) (fun c_1 => ?_)
  · replace h := h.1 c_1
    exact RET v_count f_order H locs ls 11 h hP hD hS dX0_removeNewest_11
  · replace h := h.2 c_1
    refine lv_iload_n hx hb dX0_removeNewest_7 rfl (lv_at hl 1 rfl) ?_
    refine lv_if_ge (tgt := 12) hx hb dX0_removeNewest_8 (by decide) (fun c_2 => ?_) (fun c_2 => ?_)
    · replace h := h.1 c_2
      refine lv_aload_n hx hb dX0_removeNewest_12 rfl (lv_at hl 0 rfl) ?_
      refine lv_dup hx hb dX0_removeNewest_13 rfl ?_
      refine va_get (D := (dC, dI)) (ci := 0) (v := .int v_count) (C := RX0) (T := TX0) (N := 6) hx hb hts in_X0 hown hK hP 0 rfl rfl 0 (by decide) fl28 (fun _ h9 => h9) rfl dX0_removeNewest_14 ?_
      refine lv_iconst (v := 1) hx hb dX0_removeNewest_17 (by decide) ?_
      refine lv_isub hx hb dX0_removeNewest_18 ?_
      refine lv_topi (fun v_3 ev_3 => ?_)
      replace h := h v_3 ev_3
      refine va_put (D := (dC, dI)) (ci := 0) (v := .int v_3) (ty := .int) (C := RX0) (T := TX0) (N := 6) hx hb hts in_X0 tyX0 tyX0_ok nmX0 hown hK hP hD hS 0 rfl rfl 0 (by decide) fl28 (fun _ h9 => h9) rfl (by decide +kernel) rfl rfl (Nat.le_of_ble_eq_true rfl) dX0_removeNewest_19 (fun H locs hP hD hS => ?_)
      replace hP : va_P (dC, dI) vwCl (wd_X0_removeNewest cI cJ cZ a0 a_from a_to a_amount a_day a_order v_3 f_order) H := hP
      replace hD : va_D A (wd_X0_removeNewest cI cJ cZ a0 a_from a_to a_amount a_day a_order v_3 f_order) := hD
      refine lv_iload_n hx hb dX0_removeNewest_22 rfl (lv_at hl 1 rfl) ?_
      refine lv_istore_n (lv' := [(2, .int p1), (0, .ref a0), (1, .int p1)]) hx hb dX0_removeNewest_23 rfl hl (by decide) rfl (fun ls hl => ?_)
      obtain ⟨n_24, h⟩ := h
      exact bk_24 n_24 p1 v_3 f_order H locs ls hP hD hS (lv_sub hl [1, 0] rfl) h
    · replace h := h.2 c_2
      exact RET v_count f_order H locs ls 11 h hP hD hS dX0_removeNewest_11

abbrev wd_X1_has (cI cJ cZ : ClassId) (a0 a_kind a_amount a_day a_held a_spot a_lotsByAge : Nat) (v_count : Int32) (v_lotCount : Int32) : va_W := [(a0, .inr (1, [.int v_count, .int v_lotCount, .ref a_kind, .ref a_amount, .ref a_day, .ref a_held, .ref a_spot, .ref a_lotsByAge]))]
abbrev rm_X1_has : Room := { frames := 0, cells := 0, slots := 0, locals := 0 }
def wp_X1_has (post : Int32 → Prop) (v_count : Int32) (v_lotCount : Int32) (p1 : Int32) : Prop := ((p1 < 0 → post 0) ∧ (¬ p1 < 0 → ((v_count ≤ p1 → post 0) ∧ (¬ v_count ≤ p1 → post 1))))
set_option maxHeartbeats 4000000 in
set_option maxRecDepth 100000 in
theorem cw_X1_has (l : Launch) (dC : Nat → ClassId) (dI : Nat → Nat → Nat) (cI cJ cZ : ClassId) (a0 a_kind a_amount a_day a_held a_spot a_lotsByAge : Nat) (sz : Nat) (v_count : Int32) (v_lotCount : Int32) (p1 : Int32) (post : Int32 → Prop) (h : wp_X1_has post v_count v_lotCount p1) : Met l yX1_has wsX1_has rm_X1_has (va_Pc [.ref a0, .int p1] (vv_B (dC, dI) (vv_ty cI cJ cZ) (wd_X1_has cI cJ cZ a0 a_kind a_amount a_day a_held a_spot a_lotsByAge v_count v_lotCount) sz)) (va_Qi (fun r (_u : Unit) => post r) (vv_E (dC, dI) (vv_ty cI cJ cZ) (va_A (wd_X1_has cI cJ cZ a0 a_kind a_amount a_day a_held a_spot a_lotsByAge v_count v_lotCount) sz) (fun _u : Unit => wd_X1_has cI cJ cZ a0 a_kind a_amount a_day a_held a_spot a_lotsByAge v_count v_lotCount)) (va_A (wd_X1_has cI cJ cZ a0 a_kind a_amount a_day a_held a_spot a_lotsByAge v_count v_lotCount) sz)) 0 0 (va_A (wd_X1_has cI cJ cZ a0 a_kind a_amount a_day a_held a_spot a_lotsByAge v_count v_lotCount) sz) := by
  refine Met.ofW (cc := cX1_has) (maxL := 2) (ret := (some .boolean)) (by decide) rfl ?_
  intro p e s m args below meth c s₁ B hml hv
  obtain ⟨hav, hsz, hP, hK, hD0⟩ := hv
  have hx := B.exec
  have hb := B.bytes
  have hr := B.returns
  have hts := atoms_spec (ws := wsX1_has) B.pre
  have hown : s.vm.findClass RX1 = some m.cls := findClass_of_methodNamed B.named
  have hlocks := B.notSynchronized
  subst hsz
  have hD := hD0.self (sz := s.heap.size)
  clear hD0
  generalize hAe : va_A (wd_X1_has cI cJ cZ a0 a_kind a_amount a_day a_held a_spot a_lotsByAge v_count v_lotCount) s.heap.size = A at hD ⊢
  have hA : ∀ q : Nat, s.heap.size ≤ q → A q := fun q h => by rw [← hAe]; exact Or.inr h
  clear hAe
  have hS : va_S A s.heap s.heap [] := va_S.rf
  have hl := lv_entry ([.ref a0, .int p1]) (n := 2) (Nat.le_of_ble_eq_true rfl)
  subst hav
  rw [lg_entry_eq]
  generalize (lg_sl ([.ref a0, .int p1]) ++ List.replicate (2 - (lg_sl ([.ref a0, .int p1])).length) Slot.unset).toArray = ls at hl ⊢
  replace hl : lv_has ls 2 [(0, .ref a0), (1, .int p1)] := hl
  clear B
  generalize (([.ref a0, .int p1] : List Value)).toArray = av at hts ⊢
  suffices MAIN : ∀ Q : State → Prop, (∀ (v : Int32) (H : Heap) (locs : List Loc) (ls : Array Slot) (pc : Nat), vv_bo v → post v → va_P (dC, dI) vwCl (wd_X1_has cI cJ cZ a0 a_kind a_amount a_day a_held a_spot a_lotsByAge v_count v_lotCount) H → va_D A (wd_X1_has cI cJ cZ a0 a_kind a_amount a_day a_held a_spot a_lotsByAge v_count v_lotCount) → va_S A s.heap H locs → decode cX1_has pc = .ok (.ireturn, 1) → W p l e rm_X1_has s m av below meth c H locs 0 0 Q (F0 m pc ls [.int v])) → W p l e rm_X1_has s m av below meth c s.heap [] 0 0 Q (F0 m 0 ls []) from MAIN _ (fun v H locs ls pc hbo h hP hD hS hd => vv_zret () hx hb hr hlocks hbo h hK hP hD hS hd)
  intro Q RET
  have fl32 := hts (.fieldLink RX1 32 "LotFlows$Nodes" "count" "I") (by decide +kernel)
  have in_X1 : ∀ w ∈ wsX10, w ∈ wsX1_has := by decide +kernel
  suffices START : ∀ (H : Heap) (locs : List Loc), va_P (dC, dI) vwCl (wd_X1_has cI cJ cZ a0 a_kind a_amount a_day a_held a_spot a_lotsByAge v_count v_lotCount) H → va_D A (wd_X1_has cI cJ cZ a0 a_kind a_amount a_day a_held a_spot a_lotsByAge v_count v_lotCount) → va_S A s.heap H locs → W p l e rm_X1_has s m av below meth c H locs 0 0 Q (F0 m 0 ls []) from START s.heap [] hP hD hS
  clear hP hD hS
  intro H locs hP hD hS
  refine lv_iload_n hx hb dX1_has_0 rfl (lv_at hl 1 rfl) ?_
  refine lv_if_lt (tgt := 16) hx hb dX1_has_1 (by decide) (fun c_1 => ?_) (fun c_1 => ?_)
  · replace h := h.1 c_1
    refine lv_iconst (v := 0) hx hb dX1_has_16 (by decide) ?_
    exact RET 0 H locs ls 17 vv_bo0 h hP hD hS dX1_has_17
  · replace h := h.2 c_1
    refine lv_iload_n hx hb dX1_has_4 rfl (lv_at hl 1 rfl) ?_
    refine lv_aload_n hx hb dX1_has_5 rfl (lv_at hl 0 rfl) ?_
    refine va_get (D := (dC, dI)) (ci := 1) (v := .int v_count) (C := RX1) (T := TX1) (N := 8) hx hb hts in_X1 hown hK hP 0 rfl rfl 0 (by decide) fl32 (fun _ h9 => h9) rfl dX1_has_6 ?_
    refine lv_icmp_ge (tgt := 16) hx hb dX1_has_9 (by decide) (fun c_2 => ?_) (fun c_2 => ?_)
    · replace h := h.1 c_2
      refine lv_iconst (v := 0) hx hb dX1_has_16 (by decide) ?_
      exact RET 0 H locs ls 17 vv_bo0 h hP hD hS dX1_has_17
    · replace h := h.2 c_2
      refine lv_iconst (v := 1) hx hb dX1_has_12 (by decide) ?_
      refine lv_goto (tgt := 17) hx hb dX1_has_13 (by decide) ?_
      exact RET 1 H locs ls 17 vv_bo1 h hP hD hS dX1_has_17

abbrev wd_X1_isLot (cI cJ cZ : ClassId) (a0 a_kind a_amount a_day a_held a_spot a_lotsByAge : Nat) (v_count : Int32) (v_lotCount : Int32) (f_kind : (Nat → Int32)) : va_W := [(a0, .inr (1, [.int v_count, .int v_lotCount, .ref a_kind, .ref a_amount, .ref a_day, .ref a_held, .ref a_spot, .ref a_lotsByAge])), (a_kind, .inl (cI, 48, .inl f_kind))]
abbrev rm_X1_isLot : Room := { frames := 1, cells := 0, slots := 0, locals := 21 }
def wp_X1_isLot (post : Int32 → Prop) (v_count : Int32) (v_lotCount : Int32) (f_kind : (Nat → Int32)) (p1 : Int32) : Prop := (wp_X1_has (fun r_1 => ((r_1 = 0 → post 0) ∧ (¬ r_1 = 0 → (vp_in p1 48 ∧ (((¬ (f_kind p1.toNatClampNeg) = 5 → post 0) ∧ ((f_kind p1.toNatClampNeg) = 5 → post 1))))))) v_count v_lotCount p1)
set_option maxHeartbeats 4000000 in
set_option maxRecDepth 100000 in
theorem cw_X1_isLot (l : Launch) (dC : Nat → ClassId) (dI : Nat → Nat → Nat) (cI cJ cZ : ClassId) (a0 a_kind a_amount a_day a_held a_spot a_lotsByAge : Nat) (sz : Nat) (v_count : Int32) (v_lotCount : Int32) (f_kind : (Nat → Int32)) (p1 : Int32) (post : Int32 → Prop) (h : wp_X1_isLot post v_count v_lotCount f_kind p1) : Met l yX1_isLot wsX1_isLot rm_X1_isLot (va_Pc [.ref a0, .int p1] (vv_B (dC, dI) (vv_ty cI cJ cZ) (wd_X1_isLot cI cJ cZ a0 a_kind a_amount a_day a_held a_spot a_lotsByAge v_count v_lotCount f_kind) sz)) (va_Qi (fun r (_u : Unit) => post r) (vv_E (dC, dI) (vv_ty cI cJ cZ) (va_A (wd_X1_isLot cI cJ cZ a0 a_kind a_amount a_day a_held a_spot a_lotsByAge v_count v_lotCount f_kind) sz) (fun _u : Unit => wd_X1_isLot cI cJ cZ a0 a_kind a_amount a_day a_held a_spot a_lotsByAge v_count v_lotCount f_kind)) (va_A (wd_X1_isLot cI cJ cZ a0 a_kind a_amount a_day a_held a_spot a_lotsByAge v_count v_lotCount f_kind) sz)) 0 0 (va_A (wd_X1_isLot cI cJ cZ a0 a_kind a_amount a_day a_held a_spot a_lotsByAge v_count v_lotCount f_kind) sz) := by
  refine Met.ofW (cc := cX1_isLot) (maxL := 2) (ret := (some .boolean)) (by decide) rfl ?_
  intro p e s m args below meth c s₁ B hml hv
  obtain ⟨hav, hsz, hP, hK, hD0⟩ := hv
  have hx := B.exec
  have hb := B.bytes
  have hr := B.returns
  have hts := atoms_spec (ws := wsX1_isLot) B.pre
  have hown : s.vm.findClass RX1 = some m.cls := findClass_of_methodNamed B.named
  have hlocks := B.notSynchronized
  subst hsz
  have hD := hD0.self (sz := s.heap.size)
  clear hD0
  generalize hAe : va_A (wd_X1_isLot cI cJ cZ a0 a_kind a_amount a_day a_held a_spot a_lotsByAge v_count v_lotCount f_kind) s.heap.size = A at hD ⊢
  have hA : ∀ q : Nat, s.heap.size ≤ q → A q := fun q h => by rw [← hAe]; exact Or.inr h
  clear hAe
  have hS : va_S A s.heap s.heap [] := va_S.rf
  have hl := lv_entry ([.ref a0, .int p1]) (n := 2) (Nat.le_of_ble_eq_true rfl)
  subst hav
  rw [lg_entry_eq]
  generalize (lg_sl ([.ref a0, .int p1]) ++ List.replicate (2 - (lg_sl ([.ref a0, .int p1])).length) Slot.unset).toArray = ls at hl ⊢
  replace hl : lv_has ls 2 [(0, .ref a0), (1, .int p1)] := hl
  clear B
  generalize (([.ref a0, .int p1] : List Value)).toArray = av at hts ⊢
  suffices MAIN : ∀ Q : State → Prop, (∀ (v : Int32) (H : Heap) (locs : List Loc) (ls : Array Slot) (pc : Nat), vv_bo v → post v → va_P (dC, dI) vwCl (wd_X1_isLot cI cJ cZ a0 a_kind a_amount a_day a_held a_spot a_lotsByAge v_count v_lotCount f_kind) H → va_D A (wd_X1_isLot cI cJ cZ a0 a_kind a_amount a_day a_held a_spot a_lotsByAge v_count v_lotCount f_kind) → va_S A s.heap H locs → decode cX1_isLot pc = .ok (.ireturn, 1) → W p l e rm_X1_isLot s m av below meth c H locs 0 0 Q (F0 m pc ls [.int v])) → W p l e rm_X1_isLot s m av below meth c s.heap [] 0 0 Q (F0 m 0 ls []) from MAIN _ (fun v H locs ls pc hbo h hP hD hS hd => vv_zret () hx hb hr hlocks hbo h hK hP hD hS hd)
  intro Q RET
  have fl9 := hts (.fieldLink RX1 9 "LotFlows$Nodes" "kind" "[I") (by decide +kernel)
  have in_X1 : ∀ w ∈ wsX10, w ∈ wsX1_isLot := by decide +kernel
  suffices START : ∀ (H : Heap) (locs : List Loc), va_P (dC, dI) vwCl (wd_X1_isLot cI cJ cZ a0 a_kind a_amount a_day a_held a_spot a_lotsByAge v_count v_lotCount f_kind) H → va_D A (wd_X1_isLot cI cJ cZ a0 a_kind a_amount a_day a_held a_spot a_lotsByAge v_count v_lotCount f_kind) → va_S A s.heap H locs → W p l e rm_X1_isLot s m av below meth c H locs 0 0 Q (F0 m 0 ls []) from START s.heap [] hP hD hS
  clear hP hD hS
  intro H locs hP hD hS
  refine lv_aload_n hx hb dX1_isLot_0 rfl (lv_at hl 0 rfl) ?_
  refine lv_iload_n hx hb dX1_isLot_1 rfl (lv_at hl 1 rfl) ?_
  refine vv_goi [0] [1] [(a_kind, .inl (cI, 48, .inl f_kind))] [1, 0] (fun _ => wd_X1_isLot cI cJ cZ a0 a_kind a_amount a_day a_held a_spot a_lotsByAge v_count v_lotCount f_kind) (vv_rv (rest := []) (ci := 1) ⟨hx, hb, hml, hown, hts⟩ (cw_X1_has l dC dI cI cJ cZ a0 a_kind a_amount a_day a_held a_spot a_lotsByAge (H.size) v_count v_lotCount p1 _ h) (cwV 1 hts gX1_isLot_X1_has rfl rfl rfl (by decide +kernel) ⟨Nat.le_of_ble_eq_true rfl, Nat.le_of_ble_eq_true rfl⟩) hK hP hD [0] rfl (by decide) rfl rfl rfl hl.1 rfl (Nat.le_of_ble_eq_true rfl) dX1_isLot_2 ⟨Nat.le_of_ble_eq_true rfl, Nat.le_of_ble_eq_true rfl⟩) hP hD hS hA rfl rfl (by decide) (by decide) (fun _ => rfl) (by decide) (fun r_1 _ H locs h hP hD hS => ?_)
  replace hP : va_P (dC, dI) vwCl (wd_X1_isLot cI cJ cZ a0 a_kind a_amount a_day a_held a_spot a_lotsByAge v_count v_lotCount f_kind) H := hP
  replace hD : va_D A (wd_X1_isLot cI cJ cZ a0 a_kind a_amount a_day a_held a_spot a_lotsByAge v_count v_lotCount f_kind) := hD
  refine lv_if_eq (tgt := 22) hx hb dX1_isLot_5 (by decide) (fun c_2 => ?_) (fun c_2 => ?_)
  · replace h := h.1 c_2
    refine lv_iconst (v := 0) hx hb dX1_isLot_22 (by decide) ?_
    exact RET 0 H locs ls 23 vv_bo0 h hP hD hS dX1_isLot_23
  · replace h := h.2 c_2
    refine lv_aload_n hx hb dX1_isLot_8 rfl (lv_at hl 0 rfl) ?_
    refine va_get (D := (dC, dI)) (ci := 1) (v := .ref a_kind) (C := RX1) (T := TX1) (N := 8) hx hb hts in_X1 hown hK hP 0 rfl rfl 2 (by decide) fl9 (fun _ h9 => h9) rfl dX1_isLot_9 ?_
    refine lv_iload_n hx hb dX1_isLot_12 rfl (lv_at hl 1 rfl) ?_
    obtain ⟨hi_3, h⟩ := h
    refine va_iald hx hb hK hP 1 0 rfl rfl hi_3 dX1_isLot_13 ?_
    refine lv_iconst (v := 5) hx hb dX1_isLot_14 (by decide) ?_
    refine lv_icmp_ne (tgt := 22) hx hb dX1_isLot_15 (by decide) (fun c_4 => ?_) (fun c_4 => ?_)
    · replace h := h.1 c_4
      refine lv_iconst (v := 0) hx hb dX1_isLot_22 (by decide) ?_
      exact RET 0 H locs ls 23 vv_bo0 h hP hD hS dX1_isLot_23
    · replace h := h.2 c_4
      refine lv_iconst (v := 1) hx hb dX1_isLot_18 (by decide) ?_
      refine lv_goto (tgt := 23) hx hb dX1_isLot_19 (by decide) ?_
      exact RET 1 H locs ls 23 vv_bo1 h hP hD hS dX1_isLot_23

abbrev wd_X1_isDrain (cI cJ cZ : ClassId) (a0 a_kind a_amount a_day a_held a_spot a_lotsByAge : Nat) (v_count : Int32) (v_lotCount : Int32) (f_kind : (Nat → Int32)) : va_W := [(a0, .inr (1, [.int v_count, .int v_lotCount, .ref a_kind, .ref a_amount, .ref a_day, .ref a_held, .ref a_spot, .ref a_lotsByAge])), (a_kind, .inl (cI, 48, .inl f_kind))]
abbrev rm_X1_isDrain : Room := { frames := 1, cells := 0, slots := 0, locals := 21 }
def wp_X1_isDrain (post : Int32 → Prop) (v_count : Int32) (v_lotCount : Int32) (f_kind : (Nat → Int32)) (p1 : Int32) : Prop := (wp_X1_has (fun r_1 => ((r_1 = 0 → post 0) ∧ (¬ r_1 = 0 → (vp_in p1 48 ∧ (((¬ (f_kind p1.toNatClampNeg) = 0 → post 0) ∧ ((f_kind p1.toNatClampNeg) = 0 → post 1))))))) v_count v_lotCount p1)
set_option maxHeartbeats 4000000 in
set_option maxRecDepth 100000 in
theorem cw_X1_isDrain (l : Launch) (dC : Nat → ClassId) (dI : Nat → Nat → Nat) (cI cJ cZ : ClassId) (a0 a_kind a_amount a_day a_held a_spot a_lotsByAge : Nat) (sz : Nat) (v_count : Int32) (v_lotCount : Int32) (f_kind : (Nat → Int32)) (p1 : Int32) (post : Int32 → Prop) (h : wp_X1_isDrain post v_count v_lotCount f_kind p1) : Met l yX1_isDrain wsX1_isDrain rm_X1_isDrain (va_Pc [.ref a0, .int p1] (vv_B (dC, dI) (vv_ty cI cJ cZ) (wd_X1_isDrain cI cJ cZ a0 a_kind a_amount a_day a_held a_spot a_lotsByAge v_count v_lotCount f_kind) sz)) (va_Qi (fun r (_u : Unit) => post r) (vv_E (dC, dI) (vv_ty cI cJ cZ) (va_A (wd_X1_isDrain cI cJ cZ a0 a_kind a_amount a_day a_held a_spot a_lotsByAge v_count v_lotCount f_kind) sz) (fun _u : Unit => wd_X1_isDrain cI cJ cZ a0 a_kind a_amount a_day a_held a_spot a_lotsByAge v_count v_lotCount f_kind)) (va_A (wd_X1_isDrain cI cJ cZ a0 a_kind a_amount a_day a_held a_spot a_lotsByAge v_count v_lotCount f_kind) sz)) 0 0 (va_A (wd_X1_isDrain cI cJ cZ a0 a_kind a_amount a_day a_held a_spot a_lotsByAge v_count v_lotCount f_kind) sz) := by
  refine Met.ofW (cc := cX1_isDrain) (maxL := 2) (ret := (some .boolean)) (by decide) rfl ?_
  intro p e s m args below meth c s₁ B hml hv
  obtain ⟨hav, hsz, hP, hK, hD0⟩ := hv
  have hx := B.exec
  have hb := B.bytes
  have hr := B.returns
  have hts := atoms_spec (ws := wsX1_isDrain) B.pre
  have hown : s.vm.findClass RX1 = some m.cls := findClass_of_methodNamed B.named
  have hlocks := B.notSynchronized
  subst hsz
  have hD := hD0.self (sz := s.heap.size)
  clear hD0
  generalize hAe : va_A (wd_X1_isDrain cI cJ cZ a0 a_kind a_amount a_day a_held a_spot a_lotsByAge v_count v_lotCount f_kind) s.heap.size = A at hD ⊢
  have hA : ∀ q : Nat, s.heap.size ≤ q → A q := fun q h => by rw [← hAe]; exact Or.inr h
  clear hAe
  have hS : va_S A s.heap s.heap [] := va_S.rf
  have hl := lv_entry ([.ref a0, .int p1]) (n := 2) (Nat.le_of_ble_eq_true rfl)
  subst hav
  rw [lg_entry_eq]
  generalize (lg_sl ([.ref a0, .int p1]) ++ List.replicate (2 - (lg_sl ([.ref a0, .int p1])).length) Slot.unset).toArray = ls at hl ⊢
  replace hl : lv_has ls 2 [(0, .ref a0), (1, .int p1)] := hl
  clear B
  generalize (([.ref a0, .int p1] : List Value)).toArray = av at hts ⊢
  suffices MAIN : ∀ Q : State → Prop, (∀ (v : Int32) (H : Heap) (locs : List Loc) (ls : Array Slot) (pc : Nat), vv_bo v → post v → va_P (dC, dI) vwCl (wd_X1_isDrain cI cJ cZ a0 a_kind a_amount a_day a_held a_spot a_lotsByAge v_count v_lotCount f_kind) H → va_D A (wd_X1_isDrain cI cJ cZ a0 a_kind a_amount a_day a_held a_spot a_lotsByAge v_count v_lotCount f_kind) → va_S A s.heap H locs → decode cX1_isDrain pc = .ok (.ireturn, 1) → W p l e rm_X1_isDrain s m av below meth c H locs 0 0 Q (F0 m pc ls [.int v])) → W p l e rm_X1_isDrain s m av below meth c s.heap [] 0 0 Q (F0 m 0 ls []) from MAIN _ (fun v H locs ls pc hbo h hP hD hS hd => vv_zret () hx hb hr hlocks hbo h hK hP hD hS hd)
  intro Q RET
  have fl9 := hts (.fieldLink RX1 9 "LotFlows$Nodes" "kind" "[I") (by decide +kernel)
  have in_X1 : ∀ w ∈ wsX10, w ∈ wsX1_isDrain := by decide +kernel
  suffices START : ∀ (H : Heap) (locs : List Loc), va_P (dC, dI) vwCl (wd_X1_isDrain cI cJ cZ a0 a_kind a_amount a_day a_held a_spot a_lotsByAge v_count v_lotCount f_kind) H → va_D A (wd_X1_isDrain cI cJ cZ a0 a_kind a_amount a_day a_held a_spot a_lotsByAge v_count v_lotCount f_kind) → va_S A s.heap H locs → W p l e rm_X1_isDrain s m av below meth c H locs 0 0 Q (F0 m 0 ls []) from START s.heap [] hP hD hS
  clear hP hD hS
  intro H locs hP hD hS
  refine lv_aload_n hx hb dX1_isDrain_0 rfl (lv_at hl 0 rfl) ?_
  refine lv_iload_n hx hb dX1_isDrain_1 rfl (lv_at hl 1 rfl) ?_
  refine vv_goi [0] [1] [(a_kind, .inl (cI, 48, .inl f_kind))] [1, 0] (fun _ => wd_X1_isDrain cI cJ cZ a0 a_kind a_amount a_day a_held a_spot a_lotsByAge v_count v_lotCount f_kind) (vv_rv (rest := []) (ci := 1) ⟨hx, hb, hml, hown, hts⟩ (cw_X1_has l dC dI cI cJ cZ a0 a_kind a_amount a_day a_held a_spot a_lotsByAge (H.size) v_count v_lotCount p1 _ h) (cwV 1 hts gX1_isDrain_X1_has rfl rfl rfl (by decide +kernel) ⟨Nat.le_of_ble_eq_true rfl, Nat.le_of_ble_eq_true rfl⟩) hK hP hD [0] rfl (by decide) rfl rfl rfl hl.1 rfl (Nat.le_of_ble_eq_true rfl) dX1_isDrain_2 ⟨Nat.le_of_ble_eq_true rfl, Nat.le_of_ble_eq_true rfl⟩) hP hD hS hA rfl rfl (by decide) (by decide) (fun _ => rfl) (by decide) (fun r_1 _ H locs h hP hD hS => ?_)
  replace hP : va_P (dC, dI) vwCl (wd_X1_isDrain cI cJ cZ a0 a_kind a_amount a_day a_held a_spot a_lotsByAge v_count v_lotCount f_kind) H := hP
  replace hD : va_D A (wd_X1_isDrain cI cJ cZ a0 a_kind a_amount a_day a_held a_spot a_lotsByAge v_count v_lotCount f_kind) := hD
  refine lv_if_eq (tgt := 21) hx hb dX1_isDrain_5 (by decide) (fun c_2 => ?_) (fun c_2 => ?_)
  · replace h := h.1 c_2
    refine lv_iconst (v := 0) hx hb dX1_isDrain_21 (by decide) ?_
    exact RET 0 H locs ls 22 vv_bo0 h hP hD hS dX1_isDrain_22
  · replace h := h.2 c_2
    refine lv_aload_n hx hb dX1_isDrain_8 rfl (lv_at hl 0 rfl) ?_
    refine va_get (D := (dC, dI)) (ci := 1) (v := .ref a_kind) (C := RX1) (T := TX1) (N := 8) hx hb hts in_X1 hown hK hP 0 rfl rfl 2 (by decide) fl9 (fun _ h9 => h9) rfl dX1_isDrain_9 ?_
    refine lv_iload_n hx hb dX1_isDrain_12 rfl (lv_at hl 1 rfl) ?_
    obtain ⟨hi_3, h⟩ := h
    refine va_iald hx hb hK hP 1 0 rfl rfl hi_3 dX1_isDrain_13 ?_
    refine lv_if_ne (tgt := 21) hx hb dX1_isDrain_14 (by decide) (fun c_4 => ?_) (fun c_4 => ?_)
    · replace h := h.1 c_4
      refine lv_iconst (v := 0) hx hb dX1_isDrain_21 (by decide) ?_
      exact RET 0 H locs ls 22 vv_bo0 h hP hD hS dX1_isDrain_22
    · replace h := h.2 c_4
      refine lv_iconst (v := 1) hx hb dX1_isDrain_17 (by decide) ?_
      refine lv_goto (tgt := 22) hx hb dX1_isDrain_18 (by decide) ?_
      exact RET 1 H locs ls 22 vv_bo1 h hP hD hS dX1_isDrain_22

abbrev wd_X1_canTake (cI cJ cZ : ClassId) (a0 a_kind a_amount a_day a_held a_spot a_lotsByAge : Nat) (v_count : Int32) (v_lotCount : Int32) (f_kind : (Nat → Int32)) : va_W := [(a0, .inr (1, [.int v_count, .int v_lotCount, .ref a_kind, .ref a_amount, .ref a_day, .ref a_held, .ref a_spot, .ref a_lotsByAge])), (a_kind, .inl (cI, 48, .inl f_kind))]
abbrev rm_X1_canTake : Room := { frames := 1, cells := 0, slots := 0, locals := 21 }
def wp_X1_canTake (post : Int32 → Prop) (v_count : Int32) (v_lotCount : Int32) (f_kind : (Nat → Int32)) (p1 : Int32) : Prop := (wp_X1_has (fun r_1 => ((r_1 = 0 → post 0) ∧ (¬ r_1 = 0 → (vp_in p1 48 ∧ ((((f_kind p1.toNatClampNeg) = 5 → post 0) ∧ (¬ (f_kind p1.toNatClampNeg) = 5 → post 1))))))) v_count v_lotCount p1)
set_option maxHeartbeats 4000000 in
set_option maxRecDepth 100000 in
theorem cw_X1_canTake (l : Launch) (dC : Nat → ClassId) (dI : Nat → Nat → Nat) (cI cJ cZ : ClassId) (a0 a_kind a_amount a_day a_held a_spot a_lotsByAge : Nat) (sz : Nat) (v_count : Int32) (v_lotCount : Int32) (f_kind : (Nat → Int32)) (p1 : Int32) (post : Int32 → Prop) (h : wp_X1_canTake post v_count v_lotCount f_kind p1) : Met l yX1_canTake wsX1_canTake rm_X1_canTake (va_Pc [.ref a0, .int p1] (vv_B (dC, dI) (vv_ty cI cJ cZ) (wd_X1_canTake cI cJ cZ a0 a_kind a_amount a_day a_held a_spot a_lotsByAge v_count v_lotCount f_kind) sz)) (va_Qi (fun r (_u : Unit) => post r) (vv_E (dC, dI) (vv_ty cI cJ cZ) (va_A (wd_X1_canTake cI cJ cZ a0 a_kind a_amount a_day a_held a_spot a_lotsByAge v_count v_lotCount f_kind) sz) (fun _u : Unit => wd_X1_canTake cI cJ cZ a0 a_kind a_amount a_day a_held a_spot a_lotsByAge v_count v_lotCount f_kind)) (va_A (wd_X1_canTake cI cJ cZ a0 a_kind a_amount a_day a_held a_spot a_lotsByAge v_count v_lotCount f_kind) sz)) 0 0 (va_A (wd_X1_canTake cI cJ cZ a0 a_kind a_amount a_day a_held a_spot a_lotsByAge v_count v_lotCount f_kind) sz) := by
  refine Met.ofW (cc := cX1_canTake) (maxL := 2) (ret := (some .boolean)) (by decide) rfl ?_
  intro p e s m args below meth c s₁ B hml hv
  obtain ⟨hav, hsz, hP, hK, hD0⟩ := hv
  have hx := B.exec
  have hb := B.bytes
  have hr := B.returns
  have hts := atoms_spec (ws := wsX1_canTake) B.pre
  have hown : s.vm.findClass RX1 = some m.cls := findClass_of_methodNamed B.named
  have hlocks := B.notSynchronized
  subst hsz
  have hD := hD0.self (sz := s.heap.size)
  clear hD0
  generalize hAe : va_A (wd_X1_canTake cI cJ cZ a0 a_kind a_amount a_day a_held a_spot a_lotsByAge v_count v_lotCount f_kind) s.heap.size = A at hD ⊢
  have hA : ∀ q : Nat, s.heap.size ≤ q → A q := fun q h => by rw [← hAe]; exact Or.inr h
  clear hAe
  have hS : va_S A s.heap s.heap [] := va_S.rf
  have hl := lv_entry ([.ref a0, .int p1]) (n := 2) (Nat.le_of_ble_eq_true rfl)
  subst hav
  rw [lg_entry_eq]
  generalize (lg_sl ([.ref a0, .int p1]) ++ List.replicate (2 - (lg_sl ([.ref a0, .int p1])).length) Slot.unset).toArray = ls at hl ⊢
  replace hl : lv_has ls 2 [(0, .ref a0), (1, .int p1)] := hl
  clear B
  generalize (([.ref a0, .int p1] : List Value)).toArray = av at hts ⊢
  suffices MAIN : ∀ Q : State → Prop, (∀ (v : Int32) (H : Heap) (locs : List Loc) (ls : Array Slot) (pc : Nat), vv_bo v → post v → va_P (dC, dI) vwCl (wd_X1_canTake cI cJ cZ a0 a_kind a_amount a_day a_held a_spot a_lotsByAge v_count v_lotCount f_kind) H → va_D A (wd_X1_canTake cI cJ cZ a0 a_kind a_amount a_day a_held a_spot a_lotsByAge v_count v_lotCount f_kind) → va_S A s.heap H locs → decode cX1_canTake pc = .ok (.ireturn, 1) → W p l e rm_X1_canTake s m av below meth c H locs 0 0 Q (F0 m pc ls [.int v])) → W p l e rm_X1_canTake s m av below meth c s.heap [] 0 0 Q (F0 m 0 ls []) from MAIN _ (fun v H locs ls pc hbo h hP hD hS hd => vv_zret () hx hb hr hlocks hbo h hK hP hD hS hd)
  intro Q RET
  have fl9 := hts (.fieldLink RX1 9 "LotFlows$Nodes" "kind" "[I") (by decide +kernel)
  have in_X1 : ∀ w ∈ wsX10, w ∈ wsX1_canTake := by decide +kernel
  suffices START : ∀ (H : Heap) (locs : List Loc), va_P (dC, dI) vwCl (wd_X1_canTake cI cJ cZ a0 a_kind a_amount a_day a_held a_spot a_lotsByAge v_count v_lotCount f_kind) H → va_D A (wd_X1_canTake cI cJ cZ a0 a_kind a_amount a_day a_held a_spot a_lotsByAge v_count v_lotCount f_kind) → va_S A s.heap H locs → W p l e rm_X1_canTake s m av below meth c H locs 0 0 Q (F0 m 0 ls []) from START s.heap [] hP hD hS
  clear hP hD hS
  intro H locs hP hD hS
  refine lv_aload_n hx hb dX1_canTake_0 rfl (lv_at hl 0 rfl) ?_
  refine lv_iload_n hx hb dX1_canTake_1 rfl (lv_at hl 1 rfl) ?_
  refine vv_goi [0] [1] [(a_kind, .inl (cI, 48, .inl f_kind))] [1, 0] (fun _ => wd_X1_canTake cI cJ cZ a0 a_kind a_amount a_day a_held a_spot a_lotsByAge v_count v_lotCount f_kind) (vv_rv (rest := []) (ci := 1) ⟨hx, hb, hml, hown, hts⟩ (cw_X1_has l dC dI cI cJ cZ a0 a_kind a_amount a_day a_held a_spot a_lotsByAge (H.size) v_count v_lotCount p1 _ h) (cwV 1 hts gX1_canTake_X1_has rfl rfl rfl (by decide +kernel) ⟨Nat.le_of_ble_eq_true rfl, Nat.le_of_ble_eq_true rfl⟩) hK hP hD [0] rfl (by decide) rfl rfl rfl hl.1 rfl (Nat.le_of_ble_eq_true rfl) dX1_canTake_2 ⟨Nat.le_of_ble_eq_true rfl, Nat.le_of_ble_eq_true rfl⟩) hP hD hS hA rfl rfl (by decide) (by decide) (fun _ => rfl) (by decide) (fun r_1 _ H locs h hP hD hS => ?_)
  replace hP : va_P (dC, dI) vwCl (wd_X1_canTake cI cJ cZ a0 a_kind a_amount a_day a_held a_spot a_lotsByAge v_count v_lotCount f_kind) H := hP
  replace hD : va_D A (wd_X1_canTake cI cJ cZ a0 a_kind a_amount a_day a_held a_spot a_lotsByAge v_count v_lotCount f_kind) := hD
  refine lv_if_eq (tgt := 22) hx hb dX1_canTake_5 (by decide) (fun c_2 => ?_) (fun c_2 => ?_)
  · replace h := h.1 c_2
    refine lv_iconst (v := 0) hx hb dX1_canTake_22 (by decide) ?_
    exact RET 0 H locs ls 23 vv_bo0 h hP hD hS dX1_canTake_23
  · replace h := h.2 c_2
    refine lv_aload_n hx hb dX1_canTake_8 rfl (lv_at hl 0 rfl) ?_
    refine va_get (D := (dC, dI)) (ci := 1) (v := .ref a_kind) (C := RX1) (T := TX1) (N := 8) hx hb hts in_X1 hown hK hP 0 rfl rfl 2 (by decide) fl9 (fun _ h9 => h9) rfl dX1_canTake_9 ?_
    refine lv_iload_n hx hb dX1_canTake_12 rfl (lv_at hl 1 rfl) ?_
    obtain ⟨hi_3, h⟩ := h
    refine va_iald hx hb hK hP 1 0 rfl rfl hi_3 dX1_canTake_13 ?_
    refine lv_iconst (v := 5) hx hb dX1_canTake_14 (by decide) ?_
    refine lv_icmp_eq (tgt := 22) hx hb dX1_canTake_15 (by decide) (fun c_4 => ?_) (fun c_4 => ?_)
    · replace h := h.1 c_4
      refine lv_iconst (v := 0) hx hb dX1_canTake_22 (by decide) ?_
      exact RET 0 H locs ls 23 vv_bo0 h hP hD hS dX1_canTake_23
    · replace h := h.2 c_4
      refine lv_iconst (v := 1) hx hb dX1_canTake_18 (by decide) ?_
      refine lv_goto (tgt := 23) hx hb dX1_canTake_19 (by decide) ?_
      exact RET 1 H locs ls 23 vv_bo1 h hP hD hS dX1_canTake_23

abbrev wd_X1_add (cI cJ cZ : ClassId) (a0 a_kind a_amount a_day a_held a_spot a_lotsByAge : Nat) (v_count : Int32) (v_lotCount : Int32) (f_kind : (Nat → Int32)) (f_spot : (Nat → Int32)) : va_W := [(a0, .inr (1, [.int v_count, .int v_lotCount, .ref a_kind, .ref a_amount, .ref a_day, .ref a_held, .ref a_spot, .ref a_lotsByAge])), (a_kind, .inl (cI, 48, .inl f_kind)), (a_spot, .inl (cI, 48, .inl f_spot))]
abbrev rm_X1_add : Room := { frames := 0, cells := 0, slots := 0, locals := 0 }
def wp_X1_add (post : Int32 → Int32 → (Nat → Int32) → (Nat → Int32) → Prop) (v_count : Int32) (v_lotCount : Int32) (f_kind : (Nat → Int32)) (f_spot : (Nat → Int32)) (p1 : Int32) : Prop := ((v_count < 48 → (vp_in v_count 48 ∧ (∀ f_3 : Nat → Int32, f_3 = upd f_kind v_count.toNatClampNeg p1 → vp_in v_count 48 ∧ (∀ f_5 : Nat → Int32, f_5 = upd f_spot v_count.toNatClampNeg (-1) → ∀ v_6 : Int32, v_6 = (v_count + 1) → post (v_6 - 1) v_6 f_3 f_5)))) ∧ (¬ v_count < 48 → post (-2) v_count f_kind f_spot))
set_option maxHeartbeats 4000000 in
set_option maxRecDepth 100000 in
theorem cw_X1_add (l : Launch) (dC : Nat → ClassId) (dI : Nat → Nat → Nat) (cI cJ cZ : ClassId) (a0 a_kind a_amount a_day a_held a_spot a_lotsByAge : Nat) (sz : Nat) (v_count : Int32) (v_lotCount : Int32) (f_kind : (Nat → Int32)) (f_spot : (Nat → Int32)) (p1 : Int32) (post : Int32 → Int32 → (Nat → Int32) → (Nat → Int32) → Prop) (h : wp_X1_add post v_count v_lotCount f_kind f_spot p1) : Met l yX1_add wsX1_add rm_X1_add (va_Pc [.ref a0, .int p1] (vv_B (dC, dI) (vv_ty cI cJ cZ) (wd_X1_add cI cJ cZ a0 a_kind a_amount a_day a_held a_spot a_lotsByAge v_count v_lotCount f_kind f_spot) sz)) (va_Qi (fun r (u : Int32 × (Nat → Int32) × (Nat → Int32)) => post r (u.1) (u.2.1) (u.2.2)) (vv_E (dC, dI) (vv_ty cI cJ cZ) (va_A (wd_X1_add cI cJ cZ a0 a_kind a_amount a_day a_held a_spot a_lotsByAge v_count v_lotCount f_kind f_spot) sz) (fun u : Int32 × (Nat → Int32) × (Nat → Int32) => wd_X1_add cI cJ cZ a0 a_kind a_amount a_day a_held a_spot a_lotsByAge (u.1) v_lotCount (u.2.1) (u.2.2))) (va_A (wd_X1_add cI cJ cZ a0 a_kind a_amount a_day a_held a_spot a_lotsByAge v_count v_lotCount f_kind f_spot) sz)) 0 0 (va_A (wd_X1_add cI cJ cZ a0 a_kind a_amount a_day a_held a_spot a_lotsByAge v_count v_lotCount f_kind f_spot) sz) := by
  refine Met.ofW (cc := cX1_add) (maxL := 2) (ret := (some .int)) (by decide) rfl ?_
  intro p e s m args below meth c s₁ B hml hv
  obtain ⟨hav, hsz, hP, hK, hD0⟩ := hv
  have hx := B.exec
  have hb := B.bytes
  have hr := B.returns
  have hts := atoms_spec (ws := wsX1_add) B.pre
  have hown : s.vm.findClass RX1 = some m.cls := findClass_of_methodNamed B.named
  have hlocks := B.notSynchronized
  subst hsz
  have hD := hD0.self (sz := s.heap.size)
  clear hD0
  generalize hAe : va_A (wd_X1_add cI cJ cZ a0 a_kind a_amount a_day a_held a_spot a_lotsByAge v_count v_lotCount f_kind f_spot) s.heap.size = A at hD ⊢
  have hA : ∀ q : Nat, s.heap.size ≤ q → A q := fun q h => by rw [← hAe]; exact Or.inr h
  clear hAe
  have hS : va_S A s.heap s.heap [] := va_S.rf
  have hl := lv_entry ([.ref a0, .int p1]) (n := 2) (Nat.le_of_ble_eq_true rfl)
  subst hav
  rw [lg_entry_eq]
  generalize (lg_sl ([.ref a0, .int p1]) ++ List.replicate (2 - (lg_sl ([.ref a0, .int p1])).length) Slot.unset).toArray = ls at hl ⊢
  replace hl : lv_has ls 2 [(0, .ref a0), (1, .int p1)] := hl
  clear B
  generalize (([.ref a0, .int p1] : List Value)).toArray = av at hts ⊢
  suffices MAIN : ∀ Q : State → Prop, (∀ (v : Int32) (v_count : Int32) (f_kind : (Nat → Int32)) (f_spot : (Nat → Int32)) (H : Heap) (locs : List Loc) (ls : Array Slot) (pc : Nat), post v v_count f_kind f_spot → va_P (dC, dI) vwCl (wd_X1_add cI cJ cZ a0 a_kind a_amount a_day a_held a_spot a_lotsByAge v_count v_lotCount f_kind f_spot) H → va_D A (wd_X1_add cI cJ cZ a0 a_kind a_amount a_day a_held a_spot a_lotsByAge v_count v_lotCount f_kind f_spot) → va_S A s.heap H locs → decode cX1_add pc = .ok (.ireturn, 1) → W p l e rm_X1_add s m av below meth c H locs 0 0 Q (F0 m pc ls [.int v])) → W p l e rm_X1_add s m av below meth c s.heap [] 0 0 Q (F0 m 0 ls []) from MAIN _ (fun v v_count f_kind f_spot H locs ls pc h hP hD hS hd => vv_iret (v_count, f_kind, f_spot) hx hb hr hlocks h hK hP hD hS hd)
  intro Q RET
  have fl9 := hts (.fieldLink RX1 9 "LotFlows$Nodes" "kind" "[I") (by decide +kernel)
  have fl26 := hts (.fieldLink RX1 26 "LotFlows$Nodes" "spot" "[I") (by decide +kernel)
  have fl32 := hts (.fieldLink RX1 32 "LotFlows$Nodes" "count" "I") (by decide +kernel)
  have in_X1 : ∀ w ∈ wsX10, w ∈ wsX1_add := by decide +kernel
  suffices START : ∀ (H : Heap) (locs : List Loc), va_P (dC, dI) vwCl (wd_X1_add cI cJ cZ a0 a_kind a_amount a_day a_held a_spot a_lotsByAge v_count v_lotCount f_kind f_spot) H → va_D A (wd_X1_add cI cJ cZ a0 a_kind a_amount a_day a_held a_spot a_lotsByAge v_count v_lotCount f_kind f_spot) → va_S A s.heap H locs → W p l e rm_X1_add s m av below meth c H locs 0 0 Q (F0 m 0 ls []) from START s.heap [] hP hD hS
  clear hP hD hS
  intro H locs hP hD hS
  refine lv_aload_n hx hb dX1_add_0 rfl (lv_at hl 0 rfl) ?_
  refine va_get (D := (dC, dI)) (ci := 1) (v := .int v_count) (C := RX1) (T := TX1) (N := 8) hx hb hts in_X1 hown hK hP 0 rfl rfl 0 (by decide) fl32 (fun _ h9 => h9) rfl dX1_add_1 ?_
  refine lv_bipush (v := 48) hx hb dX1_add_4 (by decide) ?_
  refine lv_icmp_lt (tgt := 12) hx hb dX1_add_6 (by decide) (fun c_1 => ?_) (fun c_1 => ?_)
  · replace h := h.1 c_1
    refine lv_aload_n hx hb dX1_add_12 rfl (lv_at hl 0 rfl) ?_
    refine va_get (D := (dC, dI)) (ci := 1) (v := .ref a_kind) (C := RX1) (T := TX1) (N := 8) hx hb hts in_X1 hown hK hP 0 rfl rfl 2 (by decide) fl9 (fun _ h9 => h9) rfl dX1_add_13 ?_
    refine lv_aload_n hx hb dX1_add_16 rfl (lv_at hl 0 rfl) ?_
    refine va_get (D := (dC, dI)) (ci := 1) (v := .int v_count) (C := RX1) (T := TX1) (N := 8) hx hb hts in_X1 hown hK hP 0 rfl rfl 0 (by decide) fl32 (fun _ h9 => h9) rfl dX1_add_17 ?_
    refine lv_iload_n hx hb dX1_add_20 rfl (lv_at hl 1 rfl) ?_
    obtain ⟨hi_2, h⟩ := h
    refine vv_iast hx hb hK hP hD hS 1 0 rfl rfl hi_2 dX1_add_21 (fun f_3 ef_3 H locs hP hD hS => ?_)
    replace h := h f_3 ef_3
    replace hP : va_P (dC, dI) vwCl (wd_X1_add cI cJ cZ a0 a_kind a_amount a_day a_held a_spot a_lotsByAge v_count v_lotCount f_3 f_spot) H := hP
    replace hD : va_D A (wd_X1_add cI cJ cZ a0 a_kind a_amount a_day a_held a_spot a_lotsByAge v_count v_lotCount f_3 f_spot) := hD
    refine lv_aload_n hx hb dX1_add_22 rfl (lv_at hl 0 rfl) ?_
    refine va_get (D := (dC, dI)) (ci := 1) (v := .ref a_spot) (C := RX1) (T := TX1) (N := 8) hx hb hts in_X1 hown hK hP 0 rfl rfl 6 (by decide) fl26 (fun _ h9 => h9) rfl dX1_add_23 ?_
    refine lv_aload_n hx hb dX1_add_26 rfl (lv_at hl 0 rfl) ?_
    refine va_get (D := (dC, dI)) (ci := 1) (v := .int v_count) (C := RX1) (T := TX1) (N := 8) hx hb hts in_X1 hown hK hP 0 rfl rfl 0 (by decide) fl32 (fun _ h9 => h9) rfl dX1_add_27 ?_
    refine lv_iconst (v := (-1)) hx hb dX1_add_30 (by decide) ?_
    obtain ⟨hi_4, h⟩ := h
    refine vv_iast hx hb hK hP hD hS 2 0 rfl rfl hi_4 dX1_add_31 (fun f_5 ef_5 H locs hP hD hS => ?_)
    replace h := h f_5 ef_5
    replace hP : va_P (dC, dI) vwCl (wd_X1_add cI cJ cZ a0 a_kind a_amount a_day a_held a_spot a_lotsByAge v_count v_lotCount f_3 f_5) H := hP
    replace hD : va_D A (wd_X1_add cI cJ cZ a0 a_kind a_amount a_day a_held a_spot a_lotsByAge v_count v_lotCount f_3 f_5) := hD
    refine lv_aload_n hx hb dX1_add_32 rfl (lv_at hl 0 rfl) ?_
    refine lv_dup hx hb dX1_add_33 rfl ?_
    refine va_get (D := (dC, dI)) (ci := 1) (v := .int v_count) (C := RX1) (T := TX1) (N := 8) hx hb hts in_X1 hown hK hP 0 rfl rfl 0 (by decide) fl32 (fun _ h9 => h9) rfl dX1_add_34 ?_
    refine lv_iconst (v := 1) hx hb dX1_add_37 (by decide) ?_
    refine lv_iadd hx hb dX1_add_38 ?_
    refine lv_topi (fun v_6 ev_6 => ?_)
    replace h := h v_6 ev_6
    refine va_put (D := (dC, dI)) (ci := 1) (v := .int v_6) (ty := .int) (C := RX1) (T := TX1) (N := 8) hx hb hts in_X1 tyX1 tyX1_ok nmX1 hown hK hP hD hS 0 rfl rfl 0 (by decide) fl32 (fun _ h9 => h9) rfl (by decide +kernel) rfl rfl (Nat.le_of_ble_eq_true rfl) dX1_add_39 (fun H locs hP hD hS => ?_)
    replace hP : va_P (dC, dI) vwCl (wd_X1_add cI cJ cZ a0 a_kind a_amount a_day a_held a_spot a_lotsByAge v_6 v_lotCount f_3 f_5) H := hP
    replace hD : va_D A (wd_X1_add cI cJ cZ a0 a_kind a_amount a_day a_held a_spot a_lotsByAge v_6 v_lotCount f_3 f_5) := hD
    refine lv_aload_n hx hb dX1_add_42 rfl (lv_at hl 0 rfl) ?_
    refine va_get (D := (dC, dI)) (ci := 1) (v := .int v_6) (C := RX1) (T := TX1) (N := 8) hx hb hts in_X1 hown hK hP 0 rfl rfl 0 (by decide) fl32 (fun _ h9 => h9) rfl dX1_add_43 ?_
    refine lv_iconst (v := 1) hx hb dX1_add_46 (by decide) ?_
    refine lv_isub hx hb dX1_add_47 ?_
    exact RET (v_6 - 1) v_6 f_3 f_5 H locs ls 48 h hP hD hS dX1_add_48
  · replace h := h.2 c_1
    refine lv_bipush (v := (-2)) hx hb dX1_add_9 (by decide) ?_
    exact RET (-2) v_count f_kind f_spot H locs ls 11 h hP hD hS dX1_add_11

abbrev wd_X1_addLot (cI cJ cZ : ClassId) (a0 a_kind a_amount a_day a_held a_spot a_lotsByAge : Nat) (v_count : Int32) (v_lotCount : Int32) (f_kind : (Nat → Int32)) (f_amount : (Nat → Int64)) (f_day : (Nat → Int64)) (f_spot : (Nat → Int32)) (f_lotsByAge : (Nat → Int32)) : va_W := [(a0, .inr (1, [.int v_count, .int v_lotCount, .ref a_kind, .ref a_amount, .ref a_day, .ref a_held, .ref a_spot, .ref a_lotsByAge])), (a_kind, .inl (cI, 48, .inl f_kind)), (a_amount, .inl (cJ, 48, .inr (.inl f_amount))), (a_day, .inl (cJ, 48, .inr (.inl f_day))), (a_spot, .inl (cI, 48, .inl f_spot)), (a_lotsByAge, .inl (cI, 48, .inl f_lotsByAge))]
abbrev rm_X1_addLot : Room := { frames := 1, cells := 0, slots := 0, locals := 21 }
def wb_X1_addLot_83 (post : Int32 → Int32 → Int32 → (Nat → Int32) → (Nat → Int64) → (Nat → Int64) → (Nat → Int32) → (Nat → Int32) → Prop) (x5 : Int32) (x6 : Int32) (v_count : Int32) (v_lotCount : Int32) (f_kind : (Nat → Int32)) (f_amount : (Nat → Int64)) (f_day : (Nat → Int64)) (f_spot : (Nat → Int32)) (f_lotsByAge : (Nat → Int32)) : Prop := (vp_in x6 48 ∧ (∀ f_19 : Nat → Int32, f_19 = upd f_lotsByAge x6.toNatClampNeg x5 → ∀ v_20 : Int32, v_20 = (v_lotCount + 1) → post x5 v_count v_20 f_kind f_amount f_day f_spot f_19))
def wb_X1_addLot_37 (post : Int32 → Int32 → Int32 → (Nat → Int32) → (Nat → Int64) → (Nat → Int64) → (Nat → Int32) → (Nat → Int32) → Prop) : Nat → Int64 → Int32 → Int32 → Int32 → Int32 → (Nat → Int32) → (Nat → Int64) → (Nat → Int64) → (Nat → Int32) → (Nat → Int32) → Prop
  | 0 => fun _ _ _ _ _ _ _ _ _ _ => False
  | n + 1 => fun x3 x5 x6 v_count v_lotCount f_kind f_amount f_day f_spot f_lotsByAge => ((x6 ≤ 0 → wb_X1_addLot_83 post  x5 x6 v_count v_lotCount f_kind f_amount f_day f_spot f_lotsByAge) ∧ (¬ x6 ≤ 0 → (vp_in (x6 - 1) 48 ∧ (vp_in (f_lotsByAge (x6 - 1).toNatClampNeg) 48 ∧ (((¬ x3 < (f_day (f_lotsByAge (x6 - 1).toNatClampNeg).toNatClampNeg) → wb_X1_addLot_83 post  x5 x6 v_count v_lotCount f_kind f_amount f_day f_spot f_lotsByAge) ∧ (x3 < (f_day (f_lotsByAge (x6 - 1).toNatClampNeg).toNatClampNeg) → (vp_in (x6 - 1) 48 ∧ (vp_in x6 48 ∧ (∀ f_16 : Nat → Int32, f_16 = upd f_lotsByAge x6.toNatClampNeg (f_lotsByAge (x6 - 1).toNatClampNeg) → ∀ x_17 : Int32, x_17 = x6 + (-1) → wb_X1_addLot_37 post   n x3 x5 x_17 v_count v_lotCount f_kind f_amount f_day f_spot f_16))))))))))
def wp_X1_addLot (post : Int32 → Int32 → Int32 → (Nat → Int32) → (Nat → Int64) → (Nat → Int64) → (Nat → Int32) → (Nat → Int32) → Prop) (v_count : Int32) (v_lotCount : Int32) (f_kind : (Nat → Int32)) (f_amount : (Nat → Int64)) (f_day : (Nat → Int64)) (f_spot : (Nat → Int32)) (f_lotsByAge : (Nat → Int32)) (p1 : Int64) (p2 : Int64) : Prop := (wp_X1_add (fun r_4 v_count_1 f_kind_2 f_spot_3 => ((0 ≤ r_4 → (vp_in r_4 48 ∧ (∀ f_7 : Nat → Int64, f_7 = vp_updL f_amount r_4.toNatClampNeg p1 → vp_in r_4 48 ∧ (∀ f_9 : Nat → Int64, f_9 = vp_updL f_day r_4.toNatClampNeg p2 → (∃ n_37 : Nat, wb_X1_addLot_37 post  n_37 p2 r_4 v_lotCount v_count_1 v_lotCount f_kind_2 f_7 f_9 f_spot_3 f_lotsByAge))))) ∧ (¬ 0 ≤ r_4 → post r_4 v_count_1 v_lotCount f_kind_2 f_amount f_day f_spot_3 f_lotsByAge))) v_count v_lotCount f_kind f_spot 5)
set_option maxHeartbeats 4000000 in
set_option maxRecDepth 100000 in
theorem cw_X1_addLot (l : Launch) (dC : Nat → ClassId) (dI : Nat → Nat → Nat) (cI cJ cZ : ClassId) (a0 a_kind a_amount a_day a_held a_spot a_lotsByAge : Nat) (sz : Nat) (v_count : Int32) (v_lotCount : Int32) (f_kind : (Nat → Int32)) (f_amount : (Nat → Int64)) (f_day : (Nat → Int64)) (f_spot : (Nat → Int32)) (f_lotsByAge : (Nat → Int32)) (p1 : Int64) (p2 : Int64) (post : Int32 → Int32 → Int32 → (Nat → Int32) → (Nat → Int64) → (Nat → Int64) → (Nat → Int32) → (Nat → Int32) → Prop) (h : wp_X1_addLot post v_count v_lotCount f_kind f_amount f_day f_spot f_lotsByAge p1 p2) : Met l yX1_addLot wsX1_addLot rm_X1_addLot (va_Pc [.ref a0, .long p1, .long p2] (vv_B (dC, dI) (vv_ty cI cJ cZ) (wd_X1_addLot cI cJ cZ a0 a_kind a_amount a_day a_held a_spot a_lotsByAge v_count v_lotCount f_kind f_amount f_day f_spot f_lotsByAge) sz)) (va_Qi (fun r (u : Int32 × Int32 × (Nat → Int32) × (Nat → Int64) × (Nat → Int64) × (Nat → Int32) × (Nat → Int32)) => post r (u.1) (u.2.1) (u.2.2.1) (u.2.2.2.1) (u.2.2.2.2.1) (u.2.2.2.2.2.1) (u.2.2.2.2.2.2)) (vv_E (dC, dI) (vv_ty cI cJ cZ) (va_A (wd_X1_addLot cI cJ cZ a0 a_kind a_amount a_day a_held a_spot a_lotsByAge v_count v_lotCount f_kind f_amount f_day f_spot f_lotsByAge) sz) (fun u : Int32 × Int32 × (Nat → Int32) × (Nat → Int64) × (Nat → Int64) × (Nat → Int32) × (Nat → Int32) => wd_X1_addLot cI cJ cZ a0 a_kind a_amount a_day a_held a_spot a_lotsByAge (u.1) (u.2.1) (u.2.2.1) (u.2.2.2.1) (u.2.2.2.2.1) (u.2.2.2.2.2.1) (u.2.2.2.2.2.2))) (va_A (wd_X1_addLot cI cJ cZ a0 a_kind a_amount a_day a_held a_spot a_lotsByAge v_count v_lotCount f_kind f_amount f_day f_spot f_lotsByAge) sz)) 0 0 (va_A (wd_X1_addLot cI cJ cZ a0 a_kind a_amount a_day a_held a_spot a_lotsByAge v_count v_lotCount f_kind f_amount f_day f_spot f_lotsByAge) sz) := by
  refine Met.ofW (cc := cX1_addLot) (maxL := 7) (ret := (some .int)) (by decide) rfl ?_
  intro p e s m args below meth c s₁ B hml hv
  obtain ⟨hav, hsz, hP, hK, hD0⟩ := hv
  have hx := B.exec
  have hb := B.bytes
  have hr := B.returns
  have hts := atoms_spec (ws := wsX1_addLot) B.pre
  have hown : s.vm.findClass RX1 = some m.cls := findClass_of_methodNamed B.named
  have hlocks := B.notSynchronized
  subst hsz
  have hD := hD0.self (sz := s.heap.size)
  clear hD0
  generalize hAe : va_A (wd_X1_addLot cI cJ cZ a0 a_kind a_amount a_day a_held a_spot a_lotsByAge v_count v_lotCount f_kind f_amount f_day f_spot f_lotsByAge) s.heap.size = A at hD ⊢
  have hA : ∀ q : Nat, s.heap.size ≤ q → A q := fun q h => by rw [← hAe]; exact Or.inr h
  clear hAe
  have hS : va_S A s.heap s.heap [] := va_S.rf
  have hl := lv_entry ([.ref a0, .long p1, .long p2]) (n := 7) (Nat.le_of_ble_eq_true rfl)
  subst hav
  rw [lg_entry_eq]
  generalize (lg_sl ([.ref a0, .long p1, .long p2]) ++ List.replicate (7 - (lg_sl ([.ref a0, .long p1, .long p2])).length) Slot.unset).toArray = ls at hl ⊢
  replace hl : lv_has ls 7 [(0, .ref a0), (1, .long p1), (3, .long p2)] := hl
  clear B
  generalize (([.ref a0, .long p1, .long p2] : List Value)).toArray = av at hts ⊢
  suffices MAIN : ∀ Q : State → Prop, (∀ (v : Int32) (v_count : Int32) (v_lotCount : Int32) (f_kind : (Nat → Int32)) (f_amount : (Nat → Int64)) (f_day : (Nat → Int64)) (f_spot : (Nat → Int32)) (f_lotsByAge : (Nat → Int32)) (H : Heap) (locs : List Loc) (ls : Array Slot) (pc : Nat), post v v_count v_lotCount f_kind f_amount f_day f_spot f_lotsByAge → va_P (dC, dI) vwCl (wd_X1_addLot cI cJ cZ a0 a_kind a_amount a_day a_held a_spot a_lotsByAge v_count v_lotCount f_kind f_amount f_day f_spot f_lotsByAge) H → va_D A (wd_X1_addLot cI cJ cZ a0 a_kind a_amount a_day a_held a_spot a_lotsByAge v_count v_lotCount f_kind f_amount f_day f_spot f_lotsByAge) → va_S A s.heap H locs → decode cX1_addLot pc = .ok (.ireturn, 1) → W p l e rm_X1_addLot s m av below meth c H locs 0 0 Q (F0 m pc ls [.int v])) → W p l e rm_X1_addLot s m av below meth c s.heap [] 0 0 Q (F0 m 0 ls []) from MAIN _ (fun v v_count v_lotCount f_kind f_amount f_day f_spot f_lotsByAge H locs ls pc h hP hD hS hd => vv_iret (v_count, v_lotCount, f_kind, f_amount, f_day, f_spot, f_lotsByAge) hx hb hr hlocks h hK hP hD hS hd)
  intro Q RET
  have fl15 := hts (.fieldLink RX1 15 "LotFlows$Nodes" "amount" "[J") (by decide +kernel)
  have fl19 := hts (.fieldLink RX1 19 "LotFlows$Nodes" "day" "[J") (by decide +kernel)
  have fl29 := hts (.fieldLink RX1 29 "LotFlows$Nodes" "lotsByAge" "[I") (by decide +kernel)
  have fl44 := hts (.fieldLink RX1 44 "LotFlows$Nodes" "lotCount" "I") (by decide +kernel)
  have in_X1 : ∀ w ∈ wsX10, w ∈ wsX1_addLot := by decide +kernel
  have bk_83 : ∀ (x5 : Int32) (x6 : Int32) (v_count : Int32) (v_lotCount : Int32) (f_kind : (Nat → Int32)) (f_amount : (Nat → Int64)) (f_day : (Nat → Int64)) (f_spot : (Nat → Int32)) (f_lotsByAge : (Nat → Int32)) (H : Heap) (locs : List Loc) (ls : Array Slot), va_P (dC, dI) vwCl (wd_X1_addLot cI cJ cZ a0 a_kind a_amount a_day a_held a_spot a_lotsByAge v_count v_lotCount f_kind f_amount f_day f_spot f_lotsByAge) H → va_D A (wd_X1_addLot cI cJ cZ a0 a_kind a_amount a_day a_held a_spot a_lotsByAge v_count v_lotCount f_kind f_amount f_day f_spot f_lotsByAge) → va_S A s.heap H locs → lv_has ls 7 [(0, .ref a0), (5, .int x5), (6, .int x6)] → wb_X1_addLot_83 post  x5 x6 v_count v_lotCount f_kind f_amount f_day f_spot f_lotsByAge → W p l e rm_X1_addLot s m av below meth c H locs 0 0 Q (F0 m 83 ls []) := by
    intro x5 x6 v_count v_lotCount f_kind f_amount f_day f_spot f_lotsByAge H locs ls hP hD hS hl h
    refine lv_aload_n hx hb dX1_addLot_83 rfl (lv_at hl 0 rfl) ?_
    refine va_get (D := (dC, dI)) (ci := 1) (v := .ref a_lotsByAge) (C := RX1) (T := TX1) (N := 8) hx hb hts in_X1 hown hK hP 0 rfl rfl 7 (by decide) fl29 (fun _ h9 => h9) rfl dX1_addLot_84 ?_
    refine lv_iload hx hb dX1_addLot_87 (lv_at hl 2 rfl) ?_
    refine lv_iload hx hb dX1_addLot_89 (lv_at hl 1 rfl) ?_
    obtain ⟨hi_18, h⟩ := h
    refine vv_iast hx hb hK hP hD hS 5 0 rfl rfl hi_18 dX1_addLot_91 (fun f_19 ef_19 H locs hP hD hS => ?_)
    replace h := h f_19 ef_19
    replace hP : va_P (dC, dI) vwCl (wd_X1_addLot cI cJ cZ a0 a_kind a_amount a_day a_held a_spot a_lotsByAge v_count v_lotCount f_kind f_amount f_day f_spot f_19) H := hP
    replace hD : va_D A (wd_X1_addLot cI cJ cZ a0 a_kind a_amount a_day a_held a_spot a_lotsByAge v_count v_lotCount f_kind f_amount f_day f_spot f_19) := hD
    refine lv_aload_n hx hb dX1_addLot_92 rfl (lv_at hl 0 rfl) ?_
    refine lv_dup hx hb dX1_addLot_93 rfl ?_
    refine va_get (D := (dC, dI)) (ci := 1) (v := .int v_lotCount) (C := RX1) (T := TX1) (N := 8) hx hb hts in_X1 hown hK hP 0 rfl rfl 1 (by decide) fl44 (fun _ h9 => h9) rfl dX1_addLot_94 ?_
    refine lv_iconst (v := 1) hx hb dX1_addLot_97 (by decide) ?_
    refine lv_iadd hx hb dX1_addLot_98 ?_
    refine lv_topi (fun v_20 ev_20 => ?_)
    replace h := h v_20 ev_20
    refine va_put (D := (dC, dI)) (ci := 1) (v := .int v_20) (ty := .int) (C := RX1) (T := TX1) (N := 8) hx hb hts in_X1 tyX1 tyX1_ok nmX1 hown hK hP hD hS 0 rfl rfl 1 (by decide) fl44 (fun _ h9 => h9) rfl (by decide +kernel) rfl rfl (Nat.le_of_ble_eq_true rfl) dX1_addLot_99 (fun H locs hP hD hS => ?_)
    replace hP : va_P (dC, dI) vwCl (wd_X1_addLot cI cJ cZ a0 a_kind a_amount a_day a_held a_spot a_lotsByAge v_count v_20 f_kind f_amount f_day f_spot f_19) H := hP
    replace hD : va_D A (wd_X1_addLot cI cJ cZ a0 a_kind a_amount a_day a_held a_spot a_lotsByAge v_count v_20 f_kind f_amount f_day f_spot f_19) := hD
    refine lv_iload hx hb dX1_addLot_102 (lv_at hl 1 rfl) ?_
    exact RET x5 v_count v_20 f_kind f_amount f_day f_spot f_19 H locs ls 104 h hP hD hS dX1_addLot_104
  have bk_37 : ∀ n : Nat, ∀ (x3 : Int64) (x5 : Int32) (x6 : Int32) (v_count : Int32) (v_lotCount : Int32) (f_kind : (Nat → Int32)) (f_amount : (Nat → Int64)) (f_day : (Nat → Int64)) (f_spot : (Nat → Int32)) (f_lotsByAge : (Nat → Int32)) (H : Heap) (locs : List Loc) (ls : Array Slot), va_P (dC, dI) vwCl (wd_X1_addLot cI cJ cZ a0 a_kind a_amount a_day a_held a_spot a_lotsByAge v_count v_lotCount f_kind f_amount f_day f_spot f_lotsByAge) H → va_D A (wd_X1_addLot cI cJ cZ a0 a_kind a_amount a_day a_held a_spot a_lotsByAge v_count v_lotCount f_kind f_amount f_day f_spot f_lotsByAge) → va_S A s.heap H locs → lv_has ls 7 [(0, .ref a0), (3, .long x3), (5, .int x5), (6, .int x6)] → wb_X1_addLot_37 post  n x3 x5 x6 v_count v_lotCount f_kind f_amount f_day f_spot f_lotsByAge → W p l e rm_X1_addLot s m av below meth c H locs 0 0 Q (F0 m 37 ls []) := by
    intro n
    induction n with
    | zero =>
      intro x3 x5 x6 v_count v_lotCount f_kind f_amount f_day f_spot f_lotsByAge H locs ls hP hD hS hl h
      exact False.elim h
    | succ n ih37 =>
      intro x3 x5 x6 v_count v_lotCount f_kind f_amount f_day f_spot f_lotsByAge H locs ls hP hD hS hl h
      refine lv_iload hx hb dX1_addLot_37 (lv_at hl 3 rfl) ?_
      refine lv_if_le (tgt := 83) hx hb dX1_addLot_39 (by decide) (fun c_10 => ?_) (fun c_10 => ?_)
      · replace h := h.1 c_10
        exact bk_83 x5 x6 v_count v_lotCount f_kind f_amount f_day f_spot f_lotsByAge H locs ls hP hD hS (lv_sub hl [0, 2, 3] rfl) h
      · replace h := h.2 c_10
        refine lv_aload_n hx hb dX1_addLot_42 rfl (lv_at hl 0 rfl) ?_
        refine va_get (D := (dC, dI)) (ci := 1) (v := .ref a_day) (C := RX1) (T := TX1) (N := 8) hx hb hts in_X1 hown hK hP 0 rfl rfl 4 (by decide) fl19 (fun _ h9 => h9) rfl dX1_addLot_43 ?_
        refine lv_aload_n hx hb dX1_addLot_46 rfl (lv_at hl 0 rfl) ?_
        refine va_get (D := (dC, dI)) (ci := 1) (v := .ref a_lotsByAge) (C := RX1) (T := TX1) (N := 8) hx hb hts in_X1 hown hK hP 0 rfl rfl 7 (by decide) fl29 (fun _ h9 => h9) rfl dX1_addLot_47 ?_
        refine lv_iload hx hb dX1_addLot_50 (lv_at hl 3 rfl) ?_
        refine lv_iconst (v := 1) hx hb dX1_addLot_52 (by decide) ?_
        refine lv_isub hx hb dX1_addLot_53 ?_
        obtain ⟨hi_11, h⟩ := h
        refine va_iald hx hb hK hP 5 0 rfl rfl hi_11 dX1_addLot_54 ?_
        obtain ⟨hi_12, h⟩ := h
        refine va_lald hx hb hK hP 3 1 rfl rfl hi_12 dX1_addLot_55 ?_
        refine lv_lload_n hx hb dX1_addLot_56 rfl (lv_at hl 1 rfl) ?_
        refine vv_lcmp_le (tgt := 83) hx hb dX1_addLot_57 dX1_addLot_58 (by decide) (fun c_13 => ?_) (fun c_13 => ?_)
        · replace h := h.1 c_13
          exact bk_83 x5 x6 v_count v_lotCount f_kind f_amount f_day f_spot f_lotsByAge H locs ls hP hD hS (lv_sub hl [0, 2, 3] rfl) h
        · replace h := h.2 c_13
          refine lv_aload_n hx hb dX1_addLot_61 rfl (lv_at hl 0 rfl) ?_
          refine va_get (D := (dC, dI)) (ci := 1) (v := .ref a_lotsByAge) (C := RX1) (T := TX1) (N := 8) hx hb hts in_X1 hown hK hP 0 rfl rfl 7 (by decide) fl29 (fun _ h9 => h9) rfl dX1_addLot_62 ?_
          refine lv_iload hx hb dX1_addLot_65 (lv_at hl 3 rfl) ?_
          refine lv_aload_n hx hb dX1_addLot_67 rfl (lv_at hl 0 rfl) ?_
          refine va_get (D := (dC, dI)) (ci := 1) (v := .ref a_lotsByAge) (C := RX1) (T := TX1) (N := 8) hx hb hts in_X1 hown hK hP 0 rfl rfl 7 (by decide) fl29 (fun _ h9 => h9) rfl dX1_addLot_68 ?_
          refine lv_iload hx hb dX1_addLot_71 (lv_at hl 3 rfl) ?_
          refine lv_iconst (v := 1) hx hb dX1_addLot_73 (by decide) ?_
          refine lv_isub hx hb dX1_addLot_74 ?_
          obtain ⟨hi_14, h⟩ := h
          refine va_iald hx hb hK hP 5 0 rfl rfl hi_14 dX1_addLot_75 ?_
          obtain ⟨hi_15, h⟩ := h
          refine vv_iast hx hb hK hP hD hS 5 0 rfl rfl hi_15 dX1_addLot_76 (fun f_16 ef_16 H locs hP hD hS => ?_)
          replace h := h f_16 ef_16
          replace hP : va_P (dC, dI) vwCl (wd_X1_addLot cI cJ cZ a0 a_kind a_amount a_day a_held a_spot a_lotsByAge v_count v_lotCount f_kind f_amount f_day f_spot f_16) H := hP
          replace hD : va_D A (wd_X1_addLot cI cJ cZ a0 a_kind a_amount a_day a_held a_spot a_lotsByAge v_count v_lotCount f_kind f_amount f_day f_spot f_16) := hD
          obtain ⟨x_17, ex_17⟩ : ∃ y : Int32, y = x6 + (-1) := ⟨_, rfl⟩
          replace h := h x_17 ex_17
          refine lv_iinc (v := x_17) (lv' := [(6, .int x_17), (0, .ref a0), (3, .long x3), (5, .int x5)]) hx hb dX1_addLot_77 hl (k := 3) rfl (by rw [ex_17]; rfl) (by decide) rfl (fun ls hl => ?_)
          refine lv_goto (tgt := 37) hx hb dX1_addLot_80 (by decide) ?_
          exact ih37 x3 x5 x_17 v_count v_lotCount f_kind f_amount f_day f_spot f_16 H locs ls hP hD hS (lv_sub hl [1, 2, 3, 0] rfl) h
  suffices START : ∀ (H : Heap) (locs : List Loc), va_P (dC, dI) vwCl (wd_X1_addLot cI cJ cZ a0 a_kind a_amount a_day a_held a_spot a_lotsByAge v_count v_lotCount f_kind f_amount f_day f_spot f_lotsByAge) H → va_D A (wd_X1_addLot cI cJ cZ a0 a_kind a_amount a_day a_held a_spot a_lotsByAge v_count v_lotCount f_kind f_amount f_day f_spot f_lotsByAge) → va_S A s.heap H locs → W p l e rm_X1_addLot s m av below meth c H locs 0 0 Q (F0 m 0 ls []) from START s.heap [] hP hD hS
  clear hP hD hS
  intro H locs hP hD hS
  refine lv_aload_n hx hb dX1_addLot_0 rfl (lv_at hl 0 rfl) ?_
  refine lv_iconst (v := 5) hx hb dX1_addLot_1 (by decide) ?_
  refine vv_goi [0, 1, 4] [2, 3, 5] [(a_amount, .inl (cJ, 48, .inr (.inl f_amount))), (a_day, .inl (cJ, 48, .inr (.inl f_day))), (a_lotsByAge, .inl (cI, 48, .inl f_lotsByAge))] [3, 4, 0, 1, 5, 2] (fun u => wd_X1_addLot cI cJ cZ a0 a_kind a_amount a_day a_held a_spot a_lotsByAge (u.1) v_lotCount (u.2.1) f_amount f_day (u.2.2) f_lotsByAge) (vv_rv (rest := []) (ci := 1) ⟨hx, hb, hml, hown, hts⟩ (cw_X1_add l dC dI cI cJ cZ a0 a_kind a_amount a_day a_held a_spot a_lotsByAge (H.size) v_count v_lotCount f_kind f_spot 5 _ h) (cwV 1 hts gX1_addLot_X1_add rfl rfl rfl (by decide +kernel) ⟨Nat.le_of_ble_eq_true rfl, Nat.le_of_ble_eq_true rfl⟩) hK hP hD [0, 1, 4] rfl (by decide) rfl rfl rfl hl.1 rfl (Nat.le_of_ble_eq_true rfl) dX1_addLot_2 ⟨Nat.le_of_ble_eq_true rfl, Nat.le_of_ble_eq_true rfl⟩) hP hD hS hA rfl rfl (by decide) (by decide) (fun _ => rfl) (by decide) (fun r_4 u H locs h hP hD hS => ?_)
  obtain ⟨v_count_1, f_kind_2, f_spot_3⟩ := u
  replace hP : va_P (dC, dI) vwCl (wd_X1_addLot cI cJ cZ a0 a_kind a_amount a_day a_held a_spot a_lotsByAge v_count_1 v_lotCount f_kind_2 f_amount f_day f_spot_3 f_lotsByAge) H := hP
  replace hD : va_D A (wd_X1_addLot cI cJ cZ a0 a_kind a_amount a_day a_held a_spot a_lotsByAge v_count_1 v_lotCount f_kind_2 f_amount f_day f_spot_3 f_lotsByAge) := hD
  refine lv_istore (lv' := [(5, .int r_4), (0, .ref a0), (1, .long p1), (3, .long p2)]) hx hb dX1_addLot_5 hl (by decide) rfl (fun ls hl => ?_)
  refine lv_iload hx hb dX1_addLot_7 (lv_at hl 0 rfl) ?_
  refine lv_if_ge (tgt := 15) hx hb dX1_addLot_9 (by decide) (fun c_5 => ?_) (fun c_5 => ?_)
  · replace h := h.1 c_5
    refine lv_aload_n hx hb dX1_addLot_15 rfl (lv_at hl 1 rfl) ?_
    refine va_get (D := (dC, dI)) (ci := 1) (v := .ref a_amount) (C := RX1) (T := TX1) (N := 8) hx hb hts in_X1 hown hK hP 0 rfl rfl 3 (by decide) fl15 (fun _ h9 => h9) rfl dX1_addLot_16 ?_
    refine lv_iload hx hb dX1_addLot_19 (lv_at hl 0 rfl) ?_
    refine lv_lload_n hx hb dX1_addLot_21 rfl (lv_at hl 2 rfl) ?_
    obtain ⟨hi_6, h⟩ := h
    refine vv_last hx hb hK hP hD hS 2 1 rfl rfl hi_6 dX1_addLot_22 (fun f_7 ef_7 H locs hP hD hS => ?_)
    replace h := h f_7 ef_7
    replace hP : va_P (dC, dI) vwCl (wd_X1_addLot cI cJ cZ a0 a_kind a_amount a_day a_held a_spot a_lotsByAge v_count_1 v_lotCount f_kind_2 f_7 f_day f_spot_3 f_lotsByAge) H := hP
    replace hD : va_D A (wd_X1_addLot cI cJ cZ a0 a_kind a_amount a_day a_held a_spot a_lotsByAge v_count_1 v_lotCount f_kind_2 f_7 f_day f_spot_3 f_lotsByAge) := hD
    refine lv_aload_n hx hb dX1_addLot_23 rfl (lv_at hl 1 rfl) ?_
    refine va_get (D := (dC, dI)) (ci := 1) (v := .ref a_day) (C := RX1) (T := TX1) (N := 8) hx hb hts in_X1 hown hK hP 0 rfl rfl 4 (by decide) fl19 (fun _ h9 => h9) rfl dX1_addLot_24 ?_
    refine lv_iload hx hb dX1_addLot_27 (lv_at hl 0 rfl) ?_
    refine lv_lload_n hx hb dX1_addLot_29 rfl (lv_at hl 3 rfl) ?_
    obtain ⟨hi_8, h⟩ := h
    refine vv_last hx hb hK hP hD hS 3 1 rfl rfl hi_8 dX1_addLot_30 (fun f_9 ef_9 H locs hP hD hS => ?_)
    replace h := h f_9 ef_9
    replace hP : va_P (dC, dI) vwCl (wd_X1_addLot cI cJ cZ a0 a_kind a_amount a_day a_held a_spot a_lotsByAge v_count_1 v_lotCount f_kind_2 f_7 f_9 f_spot_3 f_lotsByAge) H := hP
    replace hD : va_D A (wd_X1_addLot cI cJ cZ a0 a_kind a_amount a_day a_held a_spot a_lotsByAge v_count_1 v_lotCount f_kind_2 f_7 f_9 f_spot_3 f_lotsByAge) := hD
    refine lv_aload_n hx hb dX1_addLot_31 rfl (lv_at hl 1 rfl) ?_
    refine va_get (D := (dC, dI)) (ci := 1) (v := .int v_lotCount) (C := RX1) (T := TX1) (N := 8) hx hb hts in_X1 hown hK hP 0 rfl rfl 1 (by decide) fl44 (fun _ h9 => h9) rfl dX1_addLot_32 ?_
    refine lv_istore (lv' := [(6, .int v_lotCount), (5, .int r_4), (0, .ref a0), (1, .long p1), (3, .long p2)]) hx hb dX1_addLot_35 hl (by decide) rfl (fun ls hl => ?_)
    obtain ⟨n_37, h⟩ := h
    exact bk_37 n_37 p2 r_4 v_lotCount v_count_1 v_lotCount f_kind_2 f_7 f_9 f_spot_3 f_lotsByAge H locs ls hP hD hS (lv_sub hl [2, 4, 1, 0] rfl) h
  · replace h := h.2 c_5
    refine lv_iload hx hb dX1_addLot_12 (lv_at hl 0 rfl) ?_
    exact RET r_4 v_count_1 v_lotCount f_kind_2 f_amount f_day f_spot_3 f_lotsByAge H locs ls 14 h hP hD hS dX1_addLot_14

abbrev wd_X2_insert (cI cJ cZ : ClassId) (a0 a_spot a_units a_holders : Nat) (v_count : Int32) (f_spot : (Nat → Int32)) (f_units : (Nat → Int64)) (f_holders : (Nat → Int32)) : va_W := [(a0, .inr (2, [.int v_count, .ref a_spot, .ref a_units, .ref a_holders])), (a_spot, .inl (cI, 48, .inl f_spot)), (a_units, .inl (cJ, 48, .inr (.inl f_units))), (a_holders, .inl (cI, 48, .inl f_holders))]
abbrev rm_X2_insert : Room := { frames := 0, cells := 0, slots := 0, locals := 0 }
def wb_X2_insert_16 (post : Int32 → (Nat → Int32) → (Nat → Int64) → (Nat → Int32) → Prop) : Nat → Int32 → Int32 → Int64 → Int32 → Int32 → (Nat → Int32) → (Nat → Int64) → (Nat → Int32) → Prop
  | 0 => fun _ _ _ _ _ _ _ _ => False
  | n + 1 => fun x1 x2 x3 x5 v_count f_spot f_units f_holders => ((x5 ≤ x1 → (vp_in x1 48 ∧ (∀ f_4 : Nat → Int32, f_4 = upd f_spot x1.toNatClampNeg x2 → vp_in x1 48 ∧ (∀ f_6 : Nat → Int64, f_6 = vp_updL f_units x1.toNatClampNeg x3 → vp_in x1 48 ∧ (∀ f_8 : Nat → Int32, f_8 = upd f_holders x1.toNatClampNeg 1 → ∀ v_9 : Int32, v_9 = (v_count + 1) → post v_9 f_4 f_6 f_8))))) ∧ (¬ x5 ≤ x1 → (vp_in (x5 - 1) 48 ∧ (vp_in x5 48 ∧ (∀ f_12 : Nat → Int32, f_12 = upd f_spot x5.toNatClampNeg (f_spot (x5 - 1).toNatClampNeg) → vp_in (x5 - 1) 48 ∧ (vp_in x5 48 ∧ (∀ f_15 : Nat → Int64, f_15 = vp_updL f_units x5.toNatClampNeg (f_units (x5 - 1).toNatClampNeg) → vp_in (x5 - 1) 48 ∧ (vp_in x5 48 ∧ (∀ f_18 : Nat → Int32, f_18 = upd f_holders x5.toNatClampNeg (f_holders (x5 - 1).toNatClampNeg) → ∀ x_19 : Int32, x_19 = x5 + (-1) → wb_X2_insert_16 post   n x1 x2 x3 x_19 v_count f_12 f_15 f_18)))))))))
def wp_X2_insert (post : Int32 → (Nat → Int32) → (Nat → Int64) → (Nat → Int32) → Prop) (v_count : Int32) (f_spot : (Nat → Int32)) (f_units : (Nat → Int64)) (f_holders : (Nat → Int32)) (p1 : Int32) (p2 : Int32) (p3 : Int64) : Prop := ((v_count < 48 → (∃ n_16 : Nat, wb_X2_insert_16 post  n_16 p1 p2 p3 v_count v_count f_spot f_units f_holders)) ∧ (¬ v_count < 48 → post v_count f_spot f_units f_holders))
set_option maxHeartbeats 4000000 in
set_option maxRecDepth 100000 in
theorem cw_X2_insert (l : Launch) (dC : Nat → ClassId) (dI : Nat → Nat → Nat) (cI cJ cZ : ClassId) (a0 a_spot a_units a_holders : Nat) (sz : Nat) (v_count : Int32) (f_spot : (Nat → Int32)) (f_units : (Nat → Int64)) (f_holders : (Nat → Int32)) (p1 : Int32) (p2 : Int32) (p3 : Int64) (post : Int32 → (Nat → Int32) → (Nat → Int64) → (Nat → Int32) → Prop) (h : wp_X2_insert post v_count f_spot f_units f_holders p1 p2 p3) : Met l yX2_insert wsX2_insert rm_X2_insert (va_Pc [.ref a0, .int p1, .int p2, .long p3] (vv_B (dC, dI) (vv_ty cI cJ cZ) (wd_X2_insert cI cJ cZ a0 a_spot a_units a_holders v_count f_spot f_units f_holders) sz)) (va_Qv (fun (u : Int32 × (Nat → Int32) × (Nat → Int64) × (Nat → Int32)) => post (u.1) (u.2.1) (u.2.2.1) (u.2.2.2)) (vv_E (dC, dI) (vv_ty cI cJ cZ) (va_A (wd_X2_insert cI cJ cZ a0 a_spot a_units a_holders v_count f_spot f_units f_holders) sz) (fun u : Int32 × (Nat → Int32) × (Nat → Int64) × (Nat → Int32) => wd_X2_insert cI cJ cZ a0 a_spot a_units a_holders (u.1) (u.2.1) (u.2.2.1) (u.2.2.2))) (va_A (wd_X2_insert cI cJ cZ a0 a_spot a_units a_holders v_count f_spot f_units f_holders) sz)) 0 0 (va_A (wd_X2_insert cI cJ cZ a0 a_spot a_units a_holders v_count f_spot f_units f_holders) sz) := by
  refine Met.ofW (cc := cX2_insert) (maxL := 6) (ret := none) (by decide) rfl ?_
  intro p e s m args below meth c s₁ B hml hv
  obtain ⟨hav, hsz, hP, hK, hD0⟩ := hv
  have hx := B.exec
  have hb := B.bytes
  have hr := B.returns
  have hts := atoms_spec (ws := wsX2_insert) B.pre
  have hown : s.vm.findClass RX2 = some m.cls := findClass_of_methodNamed B.named
  have hlocks := B.notSynchronized
  subst hsz
  have hD := hD0.self (sz := s.heap.size)
  clear hD0
  generalize hAe : va_A (wd_X2_insert cI cJ cZ a0 a_spot a_units a_holders v_count f_spot f_units f_holders) s.heap.size = A at hD ⊢
  have hA : ∀ q : Nat, s.heap.size ≤ q → A q := fun q h => by rw [← hAe]; exact Or.inr h
  clear hAe
  have hS : va_S A s.heap s.heap [] := va_S.rf
  have hl := lv_entry ([.ref a0, .int p1, .int p2, .long p3]) (n := 6) (Nat.le_of_ble_eq_true rfl)
  subst hav
  rw [lg_entry_eq]
  generalize (lg_sl ([.ref a0, .int p1, .int p2, .long p3]) ++ List.replicate (6 - (lg_sl ([.ref a0, .int p1, .int p2, .long p3])).length) Slot.unset).toArray = ls at hl ⊢
  replace hl : lv_has ls 6 [(0, .ref a0), (1, .int p1), (2, .int p2), (3, .long p3)] := hl
  clear B
  generalize (([.ref a0, .int p1, .int p2, .long p3] : List Value)).toArray = av at hts ⊢
  suffices MAIN : ∀ Q : State → Prop, (∀ (v_count : Int32) (f_spot : (Nat → Int32)) (f_units : (Nat → Int64)) (f_holders : (Nat → Int32)) (H : Heap) (locs : List Loc) (ls : Array Slot) (pc : Nat), post v_count f_spot f_units f_holders → va_P (dC, dI) vwCl (wd_X2_insert cI cJ cZ a0 a_spot a_units a_holders v_count f_spot f_units f_holders) H → va_D A (wd_X2_insert cI cJ cZ a0 a_spot a_units a_holders v_count f_spot f_units f_holders) → va_S A s.heap H locs → decode cX2_insert pc = .ok (.return_, 1) → W p l e rm_X2_insert s m av below meth c H locs 0 0 Q (F0 m pc ls [])) → W p l e rm_X2_insert s m av below meth c s.heap [] 0 0 Q (F0 m 0 ls []) from MAIN _ (fun v_count f_spot f_units f_holders H locs ls pc h hP hD hS hd => vv_vret (v_count, f_spot, f_units, f_holders) hx hb hr hlocks h hK hP hD hS hd)
  intro Q RET
  have fl9 := hts (.fieldLink RX2 9 "LotFlows$RecallList" "spot" "[I") (by decide +kernel)
  have fl15 := hts (.fieldLink RX2 15 "LotFlows$RecallList" "units" "[J") (by decide +kernel)
  have fl19 := hts (.fieldLink RX2 19 "LotFlows$RecallList" "holders" "[I") (by decide +kernel)
  have fl22 := hts (.fieldLink RX2 22 "LotFlows$RecallList" "count" "I") (by decide +kernel)
  have in_X2 : ∀ w ∈ wsX20, w ∈ wsX2_insert := by decide +kernel
  have bk_16 : ∀ n : Nat, ∀ (x1 : Int32) (x2 : Int32) (x3 : Int64) (x5 : Int32) (v_count : Int32) (f_spot : (Nat → Int32)) (f_units : (Nat → Int64)) (f_holders : (Nat → Int32)) (H : Heap) (locs : List Loc) (ls : Array Slot), va_P (dC, dI) vwCl (wd_X2_insert cI cJ cZ a0 a_spot a_units a_holders v_count f_spot f_units f_holders) H → va_D A (wd_X2_insert cI cJ cZ a0 a_spot a_units a_holders v_count f_spot f_units f_holders) → va_S A s.heap H locs → lv_has ls 6 [(0, .ref a0), (1, .int x1), (2, .int x2), (3, .long x3), (5, .int x5)] → wb_X2_insert_16 post  n x1 x2 x3 x5 v_count f_spot f_units f_holders → W p l e rm_X2_insert s m av below meth c H locs 0 0 Q (F0 m 16 ls []) := by
    intro n
    induction n with
    | zero =>
      intro x1 x2 x3 x5 v_count f_spot f_units f_holders H locs ls hP hD hS hl h
      exact False.elim h
    | succ n ih16 =>
      intro x1 x2 x3 x5 v_count f_spot f_units f_holders H locs ls hP hD hS hl h
      refine lv_iload hx hb dX2_insert_16 (lv_at hl 4 rfl) ?_
      refine lv_iload_n hx hb dX2_insert_18 rfl (lv_at hl 1 rfl) ?_
      refine lv_icmp_le (tgt := 76) hx hb dX2_insert_19 (by decide) (fun c_2 => ?_) (fun c_2 => ?_)
      · replace h := h.1 c_2
        refine lv_aload_n hx hb dX2_insert_76 rfl (lv_at hl 0 rfl) ?_
        refine va_get (D := (dC, dI)) (ci := 2) (v := .ref a_spot) (C := RX2) (T := TX2) (N := 4) hx hb hts in_X2 hown hK hP 0 rfl rfl 1 (by decide) fl9 (fun _ h9 => h9) rfl dX2_insert_77 ?_
        refine lv_iload_n hx hb dX2_insert_80 rfl (lv_at hl 1 rfl) ?_
        refine lv_iload_n hx hb dX2_insert_81 rfl (lv_at hl 2 rfl) ?_
        obtain ⟨hi_3, h⟩ := h
        refine vv_iast hx hb hK hP hD hS 1 0 rfl rfl hi_3 dX2_insert_82 (fun f_4 ef_4 H locs hP hD hS => ?_)
        replace h := h f_4 ef_4
        replace hP : va_P (dC, dI) vwCl (wd_X2_insert cI cJ cZ a0 a_spot a_units a_holders v_count f_4 f_units f_holders) H := hP
        replace hD : va_D A (wd_X2_insert cI cJ cZ a0 a_spot a_units a_holders v_count f_4 f_units f_holders) := hD
        refine lv_aload_n hx hb dX2_insert_83 rfl (lv_at hl 0 rfl) ?_
        refine va_get (D := (dC, dI)) (ci := 2) (v := .ref a_units) (C := RX2) (T := TX2) (N := 4) hx hb hts in_X2 hown hK hP 0 rfl rfl 2 (by decide) fl15 (fun _ h9 => h9) rfl dX2_insert_84 ?_
        refine lv_iload_n hx hb dX2_insert_87 rfl (lv_at hl 1 rfl) ?_
        refine lv_lload_n hx hb dX2_insert_88 rfl (lv_at hl 3 rfl) ?_
        obtain ⟨hi_5, h⟩ := h
        refine vv_last hx hb hK hP hD hS 2 1 rfl rfl hi_5 dX2_insert_89 (fun f_6 ef_6 H locs hP hD hS => ?_)
        replace h := h f_6 ef_6
        replace hP : va_P (dC, dI) vwCl (wd_X2_insert cI cJ cZ a0 a_spot a_units a_holders v_count f_4 f_6 f_holders) H := hP
        replace hD : va_D A (wd_X2_insert cI cJ cZ a0 a_spot a_units a_holders v_count f_4 f_6 f_holders) := hD
        refine lv_aload_n hx hb dX2_insert_90 rfl (lv_at hl 0 rfl) ?_
        refine va_get (D := (dC, dI)) (ci := 2) (v := .ref a_holders) (C := RX2) (T := TX2) (N := 4) hx hb hts in_X2 hown hK hP 0 rfl rfl 3 (by decide) fl19 (fun _ h9 => h9) rfl dX2_insert_91 ?_
        refine lv_iload_n hx hb dX2_insert_94 rfl (lv_at hl 1 rfl) ?_
        refine lv_iconst (v := 1) hx hb dX2_insert_95 (by decide) ?_
        obtain ⟨hi_7, h⟩ := h
        refine vv_iast hx hb hK hP hD hS 3 0 rfl rfl hi_7 dX2_insert_96 (fun f_8 ef_8 H locs hP hD hS => ?_)
        replace h := h f_8 ef_8
        replace hP : va_P (dC, dI) vwCl (wd_X2_insert cI cJ cZ a0 a_spot a_units a_holders v_count f_4 f_6 f_8) H := hP
        replace hD : va_D A (wd_X2_insert cI cJ cZ a0 a_spot a_units a_holders v_count f_4 f_6 f_8) := hD
        refine lv_aload_n hx hb dX2_insert_97 rfl (lv_at hl 0 rfl) ?_
        refine lv_dup hx hb dX2_insert_98 rfl ?_
        refine va_get (D := (dC, dI)) (ci := 2) (v := .int v_count) (C := RX2) (T := TX2) (N := 4) hx hb hts in_X2 hown hK hP 0 rfl rfl 0 (by decide) fl22 (fun _ h9 => h9) rfl dX2_insert_99 ?_
        refine lv_iconst (v := 1) hx hb dX2_insert_102 (by decide) ?_
        refine lv_iadd hx hb dX2_insert_103 ?_
        refine lv_topi (fun v_9 ev_9 => ?_)
        replace h := h v_9 ev_9
        refine va_put (D := (dC, dI)) (ci := 2) (v := .int v_9) (ty := .int) (C := RX2) (T := TX2) (N := 4) hx hb hts in_X2 tyX2 tyX2_ok nmX2 hown hK hP hD hS 0 rfl rfl 0 (by decide) fl22 (fun _ h9 => h9) rfl (by decide +kernel) rfl rfl (Nat.le_of_ble_eq_true rfl) dX2_insert_104 (fun H locs hP hD hS => ?_)
        replace hP : va_P (dC, dI) vwCl (wd_X2_insert cI cJ cZ a0 a_spot a_units a_holders v_9 f_4 f_6 f_8) H := hP
        replace hD : va_D A (wd_X2_insert cI cJ cZ a0 a_spot a_units a_holders v_9 f_4 f_6 f_8) := hD
        exact RET v_9 f_4 f_6 f_8 H locs ls 107 h hP hD hS dX2_insert_107
      · replace h := h.2 c_2
        refine lv_aload_n hx hb dX2_insert_22 rfl (lv_at hl 0 rfl) ?_
        refine va_get (D := (dC, dI)) (ci := 2) (v := .ref a_spot) (C := RX2) (T := TX2) (N := 4) hx hb hts in_X2 hown hK hP 0 rfl rfl 1 (by decide) fl9 (fun _ h9 => h9) rfl dX2_insert_23 ?_
        refine lv_iload hx hb dX2_insert_26 (lv_at hl 4 rfl) ?_
        refine lv_aload_n hx hb dX2_insert_28 rfl (lv_at hl 0 rfl) ?_
        refine va_get (D := (dC, dI)) (ci := 2) (v := .ref a_spot) (C := RX2) (T := TX2) (N := 4) hx hb hts in_X2 hown hK hP 0 rfl rfl 1 (by decide) fl9 (fun _ h9 => h9) rfl dX2_insert_29 ?_
        refine lv_iload hx hb dX2_insert_32 (lv_at hl 4 rfl) ?_
        refine lv_iconst (v := 1) hx hb dX2_insert_34 (by decide) ?_
        refine lv_isub hx hb dX2_insert_35 ?_
        obtain ⟨hi_10, h⟩ := h
        refine va_iald hx hb hK hP 1 0 rfl rfl hi_10 dX2_insert_36 ?_
        obtain ⟨hi_11, h⟩ := h
        refine vv_iast hx hb hK hP hD hS 1 0 rfl rfl hi_11 dX2_insert_37 (fun f_12 ef_12 H locs hP hD hS => ?_)
        replace h := h f_12 ef_12
        replace hP : va_P (dC, dI) vwCl (wd_X2_insert cI cJ cZ a0 a_spot a_units a_holders v_count f_12 f_units f_holders) H := hP
        replace hD : va_D A (wd_X2_insert cI cJ cZ a0 a_spot a_units a_holders v_count f_12 f_units f_holders) := hD
        refine lv_aload_n hx hb dX2_insert_38 rfl (lv_at hl 0 rfl) ?_
        refine va_get (D := (dC, dI)) (ci := 2) (v := .ref a_units) (C := RX2) (T := TX2) (N := 4) hx hb hts in_X2 hown hK hP 0 rfl rfl 2 (by decide) fl15 (fun _ h9 => h9) rfl dX2_insert_39 ?_
        refine lv_iload hx hb dX2_insert_42 (lv_at hl 4 rfl) ?_
        refine lv_aload_n hx hb dX2_insert_44 rfl (lv_at hl 0 rfl) ?_
        refine va_get (D := (dC, dI)) (ci := 2) (v := .ref a_units) (C := RX2) (T := TX2) (N := 4) hx hb hts in_X2 hown hK hP 0 rfl rfl 2 (by decide) fl15 (fun _ h9 => h9) rfl dX2_insert_45 ?_
        refine lv_iload hx hb dX2_insert_48 (lv_at hl 4 rfl) ?_
        refine lv_iconst (v := 1) hx hb dX2_insert_50 (by decide) ?_
        refine lv_isub hx hb dX2_insert_51 ?_
        obtain ⟨hi_13, h⟩ := h
        refine va_lald hx hb hK hP 2 1 rfl rfl hi_13 dX2_insert_52 ?_
        obtain ⟨hi_14, h⟩ := h
        refine vv_last hx hb hK hP hD hS 2 1 rfl rfl hi_14 dX2_insert_53 (fun f_15 ef_15 H locs hP hD hS => ?_)
        replace h := h f_15 ef_15
        replace hP : va_P (dC, dI) vwCl (wd_X2_insert cI cJ cZ a0 a_spot a_units a_holders v_count f_12 f_15 f_holders) H := hP
        replace hD : va_D A (wd_X2_insert cI cJ cZ a0 a_spot a_units a_holders v_count f_12 f_15 f_holders) := hD
        refine lv_aload_n hx hb dX2_insert_54 rfl (lv_at hl 0 rfl) ?_
        refine va_get (D := (dC, dI)) (ci := 2) (v := .ref a_holders) (C := RX2) (T := TX2) (N := 4) hx hb hts in_X2 hown hK hP 0 rfl rfl 3 (by decide) fl19 (fun _ h9 => h9) rfl dX2_insert_55 ?_
        refine lv_iload hx hb dX2_insert_58 (lv_at hl 4 rfl) ?_
        refine lv_aload_n hx hb dX2_insert_60 rfl (lv_at hl 0 rfl) ?_
        refine va_get (D := (dC, dI)) (ci := 2) (v := .ref a_holders) (C := RX2) (T := TX2) (N := 4) hx hb hts in_X2 hown hK hP 0 rfl rfl 3 (by decide) fl19 (fun _ h9 => h9) rfl dX2_insert_61 ?_
        refine lv_iload hx hb dX2_insert_64 (lv_at hl 4 rfl) ?_
        refine lv_iconst (v := 1) hx hb dX2_insert_66 (by decide) ?_
        refine lv_isub hx hb dX2_insert_67 ?_
        obtain ⟨hi_16, h⟩ := h
        refine va_iald hx hb hK hP 3 0 rfl rfl hi_16 dX2_insert_68 ?_
        obtain ⟨hi_17, h⟩ := h
        refine vv_iast hx hb hK hP hD hS 3 0 rfl rfl hi_17 dX2_insert_69 (fun f_18 ef_18 H locs hP hD hS => ?_)
        replace h := h f_18 ef_18
        replace hP : va_P (dC, dI) vwCl (wd_X2_insert cI cJ cZ a0 a_spot a_units a_holders v_count f_12 f_15 f_18) H := hP
        replace hD : va_D A (wd_X2_insert cI cJ cZ a0 a_spot a_units a_holders v_count f_12 f_15 f_18) := hD
        obtain ⟨x_19, ex_19⟩ : ∃ y : Int32, y = x5 + (-1) := ⟨_, rfl⟩
        replace h := h x_19 ex_19
        refine lv_iinc (v := x_19) (lv' := [(5, .int x_19), (0, .ref a0), (1, .int x1), (2, .int x2), (3, .long x3)]) hx hb dX2_insert_70 hl (k := 4) rfl (by rw [ex_19]; rfl) (by decide) rfl (fun ls hl => ?_)
        refine lv_goto (tgt := 16) hx hb dX2_insert_73 (by decide) ?_
        exact ih16 x1 x2 x3 x_19 v_count f_12 f_15 f_18 H locs ls hP hD hS (lv_sub hl [1, 2, 3, 4, 0] rfl) h
  suffices START : ∀ (H : Heap) (locs : List Loc), va_P (dC, dI) vwCl (wd_X2_insert cI cJ cZ a0 a_spot a_units a_holders v_count f_spot f_units f_holders) H → va_D A (wd_X2_insert cI cJ cZ a0 a_spot a_units a_holders v_count f_spot f_units f_holders) → va_S A s.heap H locs → W p l e rm_X2_insert s m av below meth c H locs 0 0 Q (F0 m 0 ls []) from START s.heap [] hP hD hS
  clear hP hD hS
  intro H locs hP hD hS
  refine lv_aload_n hx hb dX2_insert_0 rfl (lv_at hl 0 rfl) ?_
  refine va_get (D := (dC, dI)) (ci := 2) (v := .int v_count) (C := RX2) (T := TX2) (N := 4) hx hb hts in_X2 hown hK hP 0 rfl rfl 0 (by decide) fl22 (fun _ h9 => h9) rfl dX2_insert_1 ?_
  refine lv_bipush (v := 48) hx hb dX2_insert_4 (by decide) ?_
  refine lv_icmp_lt (tgt := 10) hx hb dX2_insert_6 (by decide) (fun c_1 => ?_) (fun c_1 => ?_)
  · replace h := h.1 c_1
    refine lv_aload_n hx hb dX2_insert_10 rfl (lv_at hl 0 rfl) ?_
    refine va_get (D := (dC, dI)) (ci := 2) (v := .int v_count) (C := RX2) (T := TX2) (N := 4) hx hb hts in_X2 hown hK hP 0 rfl rfl 0 (by decide) fl22 (fun _ h9 => h9) rfl dX2_insert_11 ?_
    refine lv_istore (lv' := [(5, .int v_count), (0, .ref a0), (1, .int p1), (2, .int p2), (3, .long p3)]) hx hb dX2_insert_14 hl (by decide) rfl (fun ls hl => ?_)
    obtain ⟨n_16, h⟩ := h
    exact bk_16 n_16 p1 p2 p3 v_count v_count f_spot f_units f_holders H locs ls hP hD hS (lv_sub hl [1, 2, 3, 4, 0] rfl) h
  · replace h := h.2 c_1
    exact RET v_count f_spot f_units f_holders H locs ls 9 h hP hD hS dX2_insert_9

abbrev wd_X2_enter (cI cJ cZ : ClassId) (a0 a_spot a_units a_holders : Nat) (v_count : Int32) (f_spot : (Nat → Int32)) (f_units : (Nat → Int64)) (f_holders : (Nat → Int32)) : va_W := [(a0, .inr (2, [.int v_count, .ref a_spot, .ref a_units, .ref a_holders])), (a_spot, .inl (cI, 48, .inl f_spot)), (a_units, .inl (cJ, 48, .inr (.inl f_units))), (a_holders, .inl (cI, 48, .inl f_holders))]
abbrev rm_X2_enter : Room := { frames := 1, cells := 0, slots := 0, locals := 25 }
def wb_X2_enter_74 (post : Int32 → (Nat → Int32) → (Nat → Int64) → (Nat → Int32) → Prop) (x1 : Int32) (x2 : Int64) (x4 : Int32) (v_count : Int32) (f_spot : (Nat → Int32)) (f_units : (Nat → Int64)) (f_holders : (Nat → Int32)) : Prop := (wp_X2_insert (fun v_count_14 f_spot_15 f_units_16 f_holders_17 => post v_count_14 f_spot_15 f_units_16 f_holders_17) v_count f_spot f_units f_holders x4 x1 x2)
def wb_X2_enter_29 (post : Int32 → (Nat → Int32) → (Nat → Int64) → (Nat → Int32) → Prop) (x1 : Int32) (x2 : Int64) (x4 : Int32) (v_count : Int32) (f_spot : (Nat → Int32)) (f_units : (Nat → Int64)) (f_holders : (Nat → Int32)) : Prop := ((v_count ≤ x4 → wb_X2_enter_74 post  x1 x2 x4 v_count f_spot f_units f_holders) ∧ (¬ v_count ≤ x4 → (vp_in x4 48 ∧ (((¬ (f_spot x4.toNatClampNeg) = x1 → wb_X2_enter_74 post  x1 x2 x4 v_count f_spot f_units f_holders) ∧ ((f_spot x4.toNatClampNeg) = x1 → (vp_in x4 48 ∧ (vp_in x4 48 ∧ (∀ f_10 : Nat → Int64, f_10 = vp_updL f_units x4.toNatClampNeg ((f_units x4.toNatClampNeg) + x2) → vp_in x4 48 ∧ (vp_in x4 48 ∧ (∀ f_13 : Nat → Int32, f_13 = upd f_holders x4.toNatClampNeg ((f_holders x4.toNatClampNeg) + 1) → post v_count f_spot f_10 f_13)))))))))))
def wb_X2_enter_3 (post : Int32 → (Nat → Int32) → (Nat → Int64) → (Nat → Int32) → Prop) : Nat → Int32 → Int64 → Int32 → Int32 → (Nat → Int32) → (Nat → Int64) → (Nat → Int32) → Prop
  | 0 => fun _ _ _ _ _ _ _ => False
  | n + 1 => fun x1 x2 x4 v_count f_spot f_units f_holders => ((v_count ≤ x4 → wb_X2_enter_29 post  x1 x2 x4 v_count f_spot f_units f_holders) ∧ (¬ v_count ≤ x4 → (vp_in x4 48 ∧ (((x1 ≤ (f_spot x4.toNatClampNeg) → wb_X2_enter_29 post  x1 x2 x4 v_count f_spot f_units f_holders) ∧ (¬ x1 ≤ (f_spot x4.toNatClampNeg) → (∀ x_4 : Int32, x_4 = x4 + 1 → wb_X2_enter_3 post   n x1 x2 x_4 v_count f_spot f_units f_holders)))))))
def wp_X2_enter (post : Int32 → (Nat → Int32) → (Nat → Int64) → (Nat → Int32) → Prop) (v_count : Int32) (f_spot : (Nat → Int32)) (f_units : (Nat → Int64)) (f_holders : (Nat → Int32)) (p1 : Int32) (p2 : Int64) : Prop := (∃ n_3 : Nat, wb_X2_enter_3 post  n_3 p1 p2 0 v_count f_spot f_units f_holders)
set_option maxHeartbeats 4000000 in
set_option maxRecDepth 100000 in
theorem cw_X2_enter (l : Launch) (dC : Nat → ClassId) (dI : Nat → Nat → Nat) (cI cJ cZ : ClassId) (a0 a_spot a_units a_holders : Nat) (sz : Nat) (v_count : Int32) (f_spot : (Nat → Int32)) (f_units : (Nat → Int64)) (f_holders : (Nat → Int32)) (p1 : Int32) (p2 : Int64) (post : Int32 → (Nat → Int32) → (Nat → Int64) → (Nat → Int32) → Prop) (h : wp_X2_enter post v_count f_spot f_units f_holders p1 p2) : Met l yX2_enter wsX2_enter rm_X2_enter (va_Pc [.ref a0, .int p1, .long p2] (vv_B (dC, dI) (vv_ty cI cJ cZ) (wd_X2_enter cI cJ cZ a0 a_spot a_units a_holders v_count f_spot f_units f_holders) sz)) (va_Qv (fun (u : Int32 × (Nat → Int32) × (Nat → Int64) × (Nat → Int32)) => post (u.1) (u.2.1) (u.2.2.1) (u.2.2.2)) (vv_E (dC, dI) (vv_ty cI cJ cZ) (va_A (wd_X2_enter cI cJ cZ a0 a_spot a_units a_holders v_count f_spot f_units f_holders) sz) (fun u : Int32 × (Nat → Int32) × (Nat → Int64) × (Nat → Int32) => wd_X2_enter cI cJ cZ a0 a_spot a_units a_holders (u.1) (u.2.1) (u.2.2.1) (u.2.2.2))) (va_A (wd_X2_enter cI cJ cZ a0 a_spot a_units a_holders v_count f_spot f_units f_holders) sz)) 0 0 (va_A (wd_X2_enter cI cJ cZ a0 a_spot a_units a_holders v_count f_spot f_units f_holders) sz) := by
  refine Met.ofW (cc := cX2_enter) (maxL := 5) (ret := none) (by decide) rfl ?_
  intro p e s m args below meth c s₁ B hml hv
  obtain ⟨hav, hsz, hP, hK, hD0⟩ := hv
  have hx := B.exec
  have hb := B.bytes
  have hr := B.returns
  have hts := atoms_spec (ws := wsX2_enter) B.pre
  have hown : s.vm.findClass RX2 = some m.cls := findClass_of_methodNamed B.named
  have hlocks := B.notSynchronized
  subst hsz
  have hD := hD0.self (sz := s.heap.size)
  clear hD0
  generalize hAe : va_A (wd_X2_enter cI cJ cZ a0 a_spot a_units a_holders v_count f_spot f_units f_holders) s.heap.size = A at hD ⊢
  have hA : ∀ q : Nat, s.heap.size ≤ q → A q := fun q h => by rw [← hAe]; exact Or.inr h
  clear hAe
  have hS : va_S A s.heap s.heap [] := va_S.rf
  have hl := lv_entry ([.ref a0, .int p1, .long p2]) (n := 5) (Nat.le_of_ble_eq_true rfl)
  subst hav
  rw [lg_entry_eq]
  generalize (lg_sl ([.ref a0, .int p1, .long p2]) ++ List.replicate (5 - (lg_sl ([.ref a0, .int p1, .long p2])).length) Slot.unset).toArray = ls at hl ⊢
  replace hl : lv_has ls 5 [(0, .ref a0), (1, .int p1), (2, .long p2)] := hl
  clear B
  generalize (([.ref a0, .int p1, .long p2] : List Value)).toArray = av at hts ⊢
  suffices MAIN : ∀ Q : State → Prop, (∀ (v_count : Int32) (f_spot : (Nat → Int32)) (f_units : (Nat → Int64)) (f_holders : (Nat → Int32)) (H : Heap) (locs : List Loc) (ls : Array Slot) (pc : Nat), post v_count f_spot f_units f_holders → va_P (dC, dI) vwCl (wd_X2_enter cI cJ cZ a0 a_spot a_units a_holders v_count f_spot f_units f_holders) H → va_D A (wd_X2_enter cI cJ cZ a0 a_spot a_units a_holders v_count f_spot f_units f_holders) → va_S A s.heap H locs → decode cX2_enter pc = .ok (.return_, 1) → W p l e rm_X2_enter s m av below meth c H locs 0 0 Q (F0 m pc ls [])) → W p l e rm_X2_enter s m av below meth c s.heap [] 0 0 Q (F0 m 0 ls []) from MAIN _ (fun v_count f_spot f_units f_holders H locs ls pc h hP hD hS hd => vv_vret (v_count, f_spot, f_units, f_holders) hx hb hr hlocks h hK hP hD hS hd)
  intro Q RET
  have fl9 := hts (.fieldLink RX2 9 "LotFlows$RecallList" "spot" "[I") (by decide +kernel)
  have fl15 := hts (.fieldLink RX2 15 "LotFlows$RecallList" "units" "[J") (by decide +kernel)
  have fl19 := hts (.fieldLink RX2 19 "LotFlows$RecallList" "holders" "[I") (by decide +kernel)
  have fl22 := hts (.fieldLink RX2 22 "LotFlows$RecallList" "count" "I") (by decide +kernel)
  have in_X2 : ∀ w ∈ wsX20, w ∈ wsX2_enter := by decide +kernel
  have bk_74 : ∀ (x1 : Int32) (x2 : Int64) (x4 : Int32) (v_count : Int32) (f_spot : (Nat → Int32)) (f_units : (Nat → Int64)) (f_holders : (Nat → Int32)) (H : Heap) (locs : List Loc) (ls : Array Slot), va_P (dC, dI) vwCl (wd_X2_enter cI cJ cZ a0 a_spot a_units a_holders v_count f_spot f_units f_holders) H → va_D A (wd_X2_enter cI cJ cZ a0 a_spot a_units a_holders v_count f_spot f_units f_holders) → va_S A s.heap H locs → lv_has ls 5 [(0, .ref a0), (1, .int x1), (2, .long x2), (4, .int x4)] → wb_X2_enter_74 post  x1 x2 x4 v_count f_spot f_units f_holders → W p l e rm_X2_enter s m av below meth c H locs 0 0 Q (F0 m 74 ls []) := by
    intro x1 x2 x4 v_count f_spot f_units f_holders H locs ls hP hD hS hl h
    refine lv_aload_n hx hb dX2_enter_74 rfl (lv_at hl 0 rfl) ?_
    refine lv_iload hx hb dX2_enter_75 (lv_at hl 3 rfl) ?_
    refine lv_iload_n hx hb dX2_enter_77 rfl (lv_at hl 1 rfl) ?_
    refine lv_lload_n hx hb dX2_enter_78 rfl (lv_at hl 2 rfl) ?_
    refine vv_gov [0, 1, 2, 3] [] [] [0, 1, 2, 3] (fun u => wd_X2_enter cI cJ cZ a0 a_spot a_units a_holders (u.1) (u.2.1) (u.2.2.1) (u.2.2.2)) (vv_rv (rest := []) (ci := 2) ⟨hx, hb, hml, hown, hts⟩ (cw_X2_insert l dC dI cI cJ cZ a0 a_spot a_units a_holders (H.size) v_count f_spot f_units f_holders x4 x1 x2 _ h) (cwV 3 hts gX2_enter_X2_insert rfl rfl rfl (by decide +kernel) ⟨Nat.le_of_ble_eq_true rfl, Nat.le_of_ble_eq_true rfl⟩) hK hP hD [0, 1, 2, 3] rfl (by decide) rfl rfl rfl hl.1 rfl (Nat.le_of_ble_eq_true rfl) dX2_enter_79 ⟨Nat.le_of_ble_eq_true rfl, Nat.le_of_ble_eq_true rfl⟩) hP hD hS hA rfl rfl (by decide) (by decide) (fun _ => rfl) (by decide) (fun u H locs h hP hD hS => ?_)
    obtain ⟨v_count_14, f_spot_15, f_units_16, f_holders_17⟩ := u
    replace hP : va_P (dC, dI) vwCl (wd_X2_enter cI cJ cZ a0 a_spot a_units a_holders v_count_14 f_spot_15 f_units_16 f_holders_17) H := hP
    replace hD : va_D A (wd_X2_enter cI cJ cZ a0 a_spot a_units a_holders v_count_14 f_spot_15 f_units_16 f_holders_17) := hD
    exact RET v_count_14 f_spot_15 f_units_16 f_holders_17 H locs ls 82 h hP hD hS dX2_enter_82
  have bk_29 : ∀ (x1 : Int32) (x2 : Int64) (x4 : Int32) (v_count : Int32) (f_spot : (Nat → Int32)) (f_units : (Nat → Int64)) (f_holders : (Nat → Int32)) (H : Heap) (locs : List Loc) (ls : Array Slot), va_P (dC, dI) vwCl (wd_X2_enter cI cJ cZ a0 a_spot a_units a_holders v_count f_spot f_units f_holders) H → va_D A (wd_X2_enter cI cJ cZ a0 a_spot a_units a_holders v_count f_spot f_units f_holders) → va_S A s.heap H locs → lv_has ls 5 [(0, .ref a0), (1, .int x1), (2, .long x2), (4, .int x4)] → wb_X2_enter_29 post  x1 x2 x4 v_count f_spot f_units f_holders → W p l e rm_X2_enter s m av below meth c H locs 0 0 Q (F0 m 29 ls []) := by
    intro x1 x2 x4 v_count f_spot f_units f_holders H locs ls hP hD hS hl h
    refine lv_iload hx hb dX2_enter_29 (lv_at hl 3 rfl) ?_
    refine lv_aload_n hx hb dX2_enter_31 rfl (lv_at hl 0 rfl) ?_
    refine va_get (D := (dC, dI)) (ci := 2) (v := .int v_count) (C := RX2) (T := TX2) (N := 4) hx hb hts in_X2 hown hK hP 0 rfl rfl 0 (by decide) fl22 (fun _ h9 => h9) rfl dX2_enter_32 ?_
    refine lv_icmp_ge (tgt := 74) hx hb dX2_enter_35 (by decide) (fun c_5 => ?_) (fun c_5 => ?_)
    · replace h := h.1 c_5
      exact bk_74 x1 x2 x4 v_count f_spot f_units f_holders H locs ls hP hD hS (lv_sub hl [0, 1, 2, 3] rfl) h
    · replace h := h.2 c_5
      refine lv_aload_n hx hb dX2_enter_38 rfl (lv_at hl 0 rfl) ?_
      refine va_get (D := (dC, dI)) (ci := 2) (v := .ref a_spot) (C := RX2) (T := TX2) (N := 4) hx hb hts in_X2 hown hK hP 0 rfl rfl 1 (by decide) fl9 (fun _ h9 => h9) rfl dX2_enter_39 ?_
      refine lv_iload hx hb dX2_enter_42 (lv_at hl 3 rfl) ?_
      obtain ⟨hi_6, h⟩ := h
      refine va_iald hx hb hK hP 1 0 rfl rfl hi_6 dX2_enter_44 ?_
      refine lv_iload_n hx hb dX2_enter_45 rfl (lv_at hl 1 rfl) ?_
      refine lv_icmp_ne (tgt := 74) hx hb dX2_enter_46 (by decide) (fun c_7 => ?_) (fun c_7 => ?_)
      · replace h := h.1 c_7
        exact bk_74 x1 x2 x4 v_count f_spot f_units f_holders H locs ls hP hD hS (lv_sub hl [0, 1, 2, 3] rfl) h
      · replace h := h.2 c_7
        refine lv_aload_n hx hb dX2_enter_49 rfl (lv_at hl 0 rfl) ?_
        refine va_get (D := (dC, dI)) (ci := 2) (v := .ref a_units) (C := RX2) (T := TX2) (N := 4) hx hb hts in_X2 hown hK hP 0 rfl rfl 2 (by decide) fl15 (fun _ h9 => h9) rfl dX2_enter_50 ?_
        refine lv_iload hx hb dX2_enter_53 (lv_at hl 3 rfl) ?_
        refine lv_dup2_11 hx hb dX2_enter_55 rfl rfl ?_
        obtain ⟨hi_8, h⟩ := h
        refine va_lald hx hb hK hP 2 1 rfl rfl hi_8 dX2_enter_56 ?_
        refine lv_lload_n hx hb dX2_enter_57 rfl (lv_at hl 2 rfl) ?_
        refine lv_ladd hx hb dX2_enter_58 ?_
        obtain ⟨hi_9, h⟩ := h
        refine vv_last hx hb hK hP hD hS 2 1 rfl rfl hi_9 dX2_enter_59 (fun f_10 ef_10 H locs hP hD hS => ?_)
        replace h := h f_10 ef_10
        replace hP : va_P (dC, dI) vwCl (wd_X2_enter cI cJ cZ a0 a_spot a_units a_holders v_count f_spot f_10 f_holders) H := hP
        replace hD : va_D A (wd_X2_enter cI cJ cZ a0 a_spot a_units a_holders v_count f_spot f_10 f_holders) := hD
        refine lv_aload_n hx hb dX2_enter_60 rfl (lv_at hl 0 rfl) ?_
        refine va_get (D := (dC, dI)) (ci := 2) (v := .ref a_holders) (C := RX2) (T := TX2) (N := 4) hx hb hts in_X2 hown hK hP 0 rfl rfl 3 (by decide) fl19 (fun _ h9 => h9) rfl dX2_enter_61 ?_
        refine lv_iload hx hb dX2_enter_64 (lv_at hl 3 rfl) ?_
        refine lv_dup2_11 hx hb dX2_enter_66 rfl rfl ?_
        obtain ⟨hi_11, h⟩ := h
        refine va_iald hx hb hK hP 3 0 rfl rfl hi_11 dX2_enter_67 ?_
        refine lv_iconst (v := 1) hx hb dX2_enter_68 (by decide) ?_
        refine lv_iadd hx hb dX2_enter_69 ?_
        obtain ⟨hi_12, h⟩ := h
        refine vv_iast hx hb hK hP hD hS 3 0 rfl rfl hi_12 dX2_enter_70 (fun f_13 ef_13 H locs hP hD hS => ?_)
        replace h := h f_13 ef_13
        replace hP : va_P (dC, dI) vwCl (wd_X2_enter cI cJ cZ a0 a_spot a_units a_holders v_count f_spot f_10 f_13) H := hP
        replace hD : va_D A (wd_X2_enter cI cJ cZ a0 a_spot a_units a_holders v_count f_spot f_10 f_13) := hD
        refine lv_goto (tgt := 82) hx hb dX2_enter_71 (by decide) ?_
        exact RET v_count f_spot f_10 f_13 H locs ls 82 h hP hD hS dX2_enter_82
  have bk_3 : ∀ n : Nat, ∀ (x1 : Int32) (x2 : Int64) (x4 : Int32) (v_count : Int32) (f_spot : (Nat → Int32)) (f_units : (Nat → Int64)) (f_holders : (Nat → Int32)) (H : Heap) (locs : List Loc) (ls : Array Slot), va_P (dC, dI) vwCl (wd_X2_enter cI cJ cZ a0 a_spot a_units a_holders v_count f_spot f_units f_holders) H → va_D A (wd_X2_enter cI cJ cZ a0 a_spot a_units a_holders v_count f_spot f_units f_holders) → va_S A s.heap H locs → lv_has ls 5 [(0, .ref a0), (1, .int x1), (2, .long x2), (4, .int x4)] → wb_X2_enter_3 post  n x1 x2 x4 v_count f_spot f_units f_holders → W p l e rm_X2_enter s m av below meth c H locs 0 0 Q (F0 m 3 ls []) := by
    intro n
    induction n with
    | zero =>
      intro x1 x2 x4 v_count f_spot f_units f_holders H locs ls hP hD hS hl h
      exact False.elim h
    | succ n ih3 =>
      intro x1 x2 x4 v_count f_spot f_units f_holders H locs ls hP hD hS hl h
      refine lv_iload hx hb dX2_enter_3 (lv_at hl 3 rfl) ?_
      refine lv_aload_n hx hb dX2_enter_5 rfl (lv_at hl 0 rfl) ?_
      refine va_get (D := (dC, dI)) (ci := 2) (v := .int v_count) (C := RX2) (T := TX2) (N := 4) hx hb hts in_X2 hown hK hP 0 rfl rfl 0 (by decide) fl22 (fun _ h9 => h9) rfl dX2_enter_6 ?_
      refine lv_icmp_ge (tgt := 29) hx hb dX2_enter_9 (by decide) (fun c_1 => ?_) (fun c_1 => ?_)
      · replace h := h.1 c_1
        exact bk_29 x1 x2 x4 v_count f_spot f_units f_holders H locs ls hP hD hS (lv_sub hl [0, 1, 2, 3] rfl) h
      · replace h := h.2 c_1
        refine lv_aload_n hx hb dX2_enter_12 rfl (lv_at hl 0 rfl) ?_
        refine va_get (D := (dC, dI)) (ci := 2) (v := .ref a_spot) (C := RX2) (T := TX2) (N := 4) hx hb hts in_X2 hown hK hP 0 rfl rfl 1 (by decide) fl9 (fun _ h9 => h9) rfl dX2_enter_13 ?_
        refine lv_iload hx hb dX2_enter_16 (lv_at hl 3 rfl) ?_
        obtain ⟨hi_2, h⟩ := h
        refine va_iald hx hb hK hP 1 0 rfl rfl hi_2 dX2_enter_18 ?_
        refine lv_iload_n hx hb dX2_enter_19 rfl (lv_at hl 1 rfl) ?_
        refine lv_icmp_ge (tgt := 29) hx hb dX2_enter_20 (by decide) (fun c_3 => ?_) (fun c_3 => ?_)
        · replace h := h.1 c_3
          exact bk_29 x1 x2 x4 v_count f_spot f_units f_holders H locs ls hP hD hS (lv_sub hl [0, 1, 2, 3] rfl) h
        · replace h := h.2 c_3
          obtain ⟨x_4, ex_4⟩ : ∃ y : Int32, y = x4 + 1 := ⟨_, rfl⟩
          replace h := h x_4 ex_4
          refine lv_iinc (v := x_4) (lv' := [(4, .int x_4), (0, .ref a0), (1, .int x1), (2, .long x2)]) hx hb dX2_enter_23 hl (k := 3) rfl (by rw [ex_4]; rfl) (by decide) rfl (fun ls hl => ?_)
          refine lv_goto (tgt := 3) hx hb dX2_enter_26 (by decide) ?_
          exact ih3 x1 x2 x_4 v_count f_spot f_units f_holders H locs ls hP hD hS (lv_sub hl [1, 2, 3, 0] rfl) h
  suffices START : ∀ (H : Heap) (locs : List Loc), va_P (dC, dI) vwCl (wd_X2_enter cI cJ cZ a0 a_spot a_units a_holders v_count f_spot f_units f_holders) H → va_D A (wd_X2_enter cI cJ cZ a0 a_spot a_units a_holders v_count f_spot f_units f_holders) → va_S A s.heap H locs → W p l e rm_X2_enter s m av below meth c H locs 0 0 Q (F0 m 0 ls []) from START s.heap [] hP hD hS
  clear hP hD hS
  intro H locs hP hD hS
  refine lv_iconst (v := 0) hx hb dX2_enter_0 (by decide) ?_
  refine lv_istore (lv' := [(4, .int 0), (0, .ref a0), (1, .int p1), (2, .long p2)]) hx hb dX2_enter_1 hl (by decide) rfl (fun ls hl => ?_)
  obtain ⟨n_3, h⟩ := h
  exact bk_3 n_3 p1 p2 0 v_count f_spot f_units f_holders H locs ls hP hD hS (lv_sub hl [1, 2, 3, 0] rfl) h
end
