-- ===== PART A: goes FIRST, ahead of the names: the tables' words, and 'selects' of the private methods out of them =====
/-- a private method of a class that the tables say can be made, by its rows of tables_1 -/
def lw_okq (q : MethodName × Nat) : Prop := (q.1.cls ≠ "java/lang/invoke/MethodHandle" ∧ q.1.cls ≠ "java/lang/invoke/VarHandle") ∧ Cond.instantiable q.1.cls q.2 ∈ tables_1 ∧ Cond.privateMethod q.1 ∈ tables_1 ∧ Cond.instanceMethod q.1 ∈ tables_1
theorem lw_p0 : lw_okq (⟨"java/lang/Throwable", "fillInStackTrace", "(I)Ljava/lang/Throwable;"⟩, 6) := ⟨⟨by decide +kernel, by decide +kernel⟩, List.mem_of_getElem? (i := 338) (by decide +kernel), List.mem_of_getElem? (i := 336) (by decide +kernel), List.mem_of_getElem? (i := 337) (by decide +kernel)⟩
theorem lw_p1 : lw_okq (⟨"LilyWheels$Text", "isAllowed", "(II)Z"⟩, 2) := ⟨⟨by decide +kernel, by decide +kernel⟩, List.mem_of_getElem? (i := 34) (by decide +kernel), List.mem_of_getElem? (i := 485) (by decide +kernel), List.mem_of_getElem? (i := 486) (by decide +kernel)⟩
theorem lw_p2 : lw_okq (⟨"LilyWheels$Text", "isDone", "(LLilyWheels$Pond;I)Z"⟩, 2) := ⟨⟨by decide +kernel, by decide +kernel⟩, List.mem_of_getElem? (i := 34) (by decide +kernel), List.mem_of_getElem? (i := 508) (by decide +kernel), List.mem_of_getElem? (i := 509) (by decide +kernel)⟩
theorem lw_p3 : lw_okq (⟨"LilyWheels$Text", "digit", "(I)I"⟩, 2) := ⟨⟨by decide +kernel, by decide +kernel⟩, List.mem_of_getElem? (i := 34) (by decide +kernel), List.mem_of_getElem? (i := 512) (by decide +kernel), List.mem_of_getElem? (i := 513) (by decide +kernel)⟩
theorem lw_p4 : lw_okq (⟨"LilyWheels$Pond", "whyNotTo", "(II)I"⟩, 9) := ⟨⟨by decide +kernel, by decide +kernel⟩, List.mem_of_getElem? (i := 48) (by decide +kernel), List.mem_of_getElem? (i := 635) (by decide +kernel), List.mem_of_getElem? (i := 636) (by decide +kernel)⟩
theorem lw_p5 : lw_okq (⟨"LilyWheels$Pond", "comeTo", "(II)V"⟩, 9) := ⟨⟨by decide +kernel, by decide +kernel⟩, List.mem_of_getElem? (i := 48) (by decide +kernel), List.mem_of_getElem? (i := 639) (by decide +kernel), List.mem_of_getElem? (i := 640) (by decide +kernel)⟩
theorem lw_p6 : lw_okq (⟨"LilyWheels$Pond", "eat", "(II)V"⟩, 9) := ⟨⟨by decide +kernel, by decide +kernel⟩, List.mem_of_getElem? (i := 48) (by decide +kernel), List.mem_of_getElem? (i := 644) (by decide +kernel), List.mem_of_getElem? (i := 645) (by decide +kernel)⟩
theorem lw_p7 : lw_okq (⟨"LilyWheels$Pond", "countMove", "(I)V"⟩, 9) := ⟨⟨by decide +kernel, by decide +kernel⟩, List.mem_of_getElem? (i := 48) (by decide +kernel), List.mem_of_getElem? (i := 660) (by decide +kernel), List.mem_of_getElem? (i := 661) (by decide +kernel)⟩
theorem lw_p8 : lw_okq (⟨"LilyWheels$Pond", "flyComes", "()V"⟩, 9) := ⟨⟨by decide +kernel, by decide +kernel⟩, List.mem_of_getElem? (i := 48) (by decide +kernel), List.mem_of_getElem? (i := 664) (by decide +kernel), List.mem_of_getElem? (i := 665) (by decide +kernel)⟩
theorem lw_p9 : lw_okq (⟨"LilyWheels$Pond", "frogsThatCanLeap", "()I"⟩, 9) := ⟨⟨by decide +kernel, by decide +kernel⟩, List.mem_of_getElem? (i := 48) (by decide +kernel), List.mem_of_getElem? (i := 710) (by decide +kernel), List.mem_of_getElem? (i := 711) (by decide +kernel)⟩
theorem lw_p10 : lw_okq (⟨"LilyWheels$History", "kept", "(I)LLilyWheels$Pond;"⟩, 3) := ⟨⟨by decide +kernel, by decide +kernel⟩, List.mem_of_getElem? (i := 188) (by decide +kernel), List.mem_of_getElem? (i := 791) (by decide +kernel), List.mem_of_getElem? (i := 792) (by decide +kernel)⟩
theorem lw_p11 : lw_okq (⟨"LilyWheels$Search", "listWays", "(LLilyWheels$Pond;)V"⟩, 10) := ⟨⟨by decide +kernel, by decide +kernel⟩, List.mem_of_getElem? (i := 222) (by decide +kernel), List.mem_of_getElem? (i := 908) (by decide +kernel), List.mem_of_getElem? (i := 909) (by decide +kernel)⟩
theorem lw_p12 : lw_okq (⟨"LilyWheels$Search", "addWay", "(II)V"⟩, 10) := ⟨⟨by decide +kernel, by decide +kernel⟩, List.mem_of_getElem? (i := 222) (by decide +kernel), List.mem_of_getElem? (i := 916) (by decide +kernel), List.mem_of_getElem? (i := 917) (by decide +kernel)⟩
theorem lw_p13 : lw_okq (⟨"LilyWheels$Search", "listTurns", "(LLilyWheels$Pond;I)V"⟩, 10) := ⟨⟨by decide +kernel, by decide +kernel⟩, List.mem_of_getElem? (i := 222) (by decide +kernel), List.mem_of_getElem? (i := 921) (by decide +kernel), List.mem_of_getElem? (i := 922) (by decide +kernel)⟩
theorem lw_p14 : lw_okq (⟨"LilyWheels$Search", "listTaken", "(LLilyWheels$Pond;I)V"⟩, 10) := ⟨⟨by decide +kernel, by decide +kernel⟩, List.mem_of_getElem? (i := 222) (by decide +kernel), List.mem_of_getElem? (i := 927) (by decide +kernel), List.mem_of_getElem? (i := 928) (by decide +kernel)⟩
theorem lw_p15 : lw_okq (⟨"LilyWheels$Search", "layPads", "(LLilyWheels$Wheels;I)V"⟩, 10) := ⟨⟨by decide +kernel, by decide +kernel⟩, List.mem_of_getElem? (i := 222) (by decide +kernel), List.mem_of_getElem? (i := 932) (by decide +kernel), List.mem_of_getElem? (i := 933) (by decide +kernel)⟩
def lw_privs_1 : List (MethodName × Nat) := [(⟨"java/lang/Throwable", "fillInStackTrace", "(I)Ljava/lang/Throwable;"⟩, 6), (⟨"LilyWheels$Text", "isAllowed", "(II)Z"⟩, 2), (⟨"LilyWheels$Text", "isDone", "(LLilyWheels$Pond;I)Z"⟩, 2), (⟨"LilyWheels$Text", "digit", "(I)I"⟩, 2), (⟨"LilyWheels$Pond", "whyNotTo", "(II)I"⟩, 9), (⟨"LilyWheels$Pond", "comeTo", "(II)V"⟩, 9), (⟨"LilyWheels$Pond", "eat", "(II)V"⟩, 9), (⟨"LilyWheels$Pond", "countMove", "(I)V"⟩, 9), (⟨"LilyWheels$Pond", "flyComes", "()V"⟩, 9), (⟨"LilyWheels$Pond", "frogsThatCanLeap", "()I"⟩, 9), (⟨"LilyWheels$History", "kept", "(I)LLilyWheels$Pond;"⟩, 3), (⟨"LilyWheels$Search", "listWays", "(LLilyWheels$Pond;)V"⟩, 10), (⟨"LilyWheels$Search", "addWay", "(II)V"⟩, 10), (⟨"LilyWheels$Search", "listTurns", "(LLilyWheels$Pond;I)V"⟩, 10), (⟨"LilyWheels$Search", "listTaken", "(LLilyWheels$Pond;I)V"⟩, 10), (⟨"LilyWheels$Search", "layPads", "(LLilyWheels$Wheels;I)V"⟩, 10)]
theorem lw_r1 : ∀ q ∈ lw_privs_1, lw_okq q := List.forall_mem_cons.mpr ⟨lw_p0, List.forall_mem_cons.mpr ⟨lw_p1, List.forall_mem_cons.mpr ⟨lw_p2, List.forall_mem_cons.mpr ⟨lw_p3, List.forall_mem_cons.mpr ⟨lw_p4, List.forall_mem_cons.mpr ⟨lw_p5, List.forall_mem_cons.mpr ⟨lw_p6, List.forall_mem_cons.mpr ⟨lw_p7, List.forall_mem_cons.mpr ⟨lw_p8, List.forall_mem_cons.mpr ⟨lw_p9, List.forall_mem_cons.mpr ⟨lw_p10, List.forall_mem_cons.mpr ⟨lw_p11, List.forall_mem_cons.mpr ⟨lw_p12, List.forall_mem_cons.mpr ⟨lw_p13, List.forall_mem_cons.mpr ⟨lw_p14, List.forall_mem_cons.mpr ⟨lw_p15, fun _ h => absurd h List.not_mem_nil⟩⟩⟩⟩⟩⟩⟩⟩⟩⟩⟩⟩⟩⟩⟩⟩
theorem lw_p16 : lw_okq (⟨"LilyWheels$Search", "couldBeTurned", "(I)Z"⟩, 10) := ⟨⟨by decide +kernel, by decide +kernel⟩, List.mem_of_getElem? (i := 222) (by decide +kernel), List.mem_of_getElem? (i := 936) (by decide +kernel), List.mem_of_getElem? (i := 937) (by decide +kernel)⟩
theorem lw_p17 : lw_okq (⟨"LilyWheels$Search", "after", "(II)I"⟩, 10) := ⟨⟨by decide +kernel, by decide +kernel⟩, List.mem_of_getElem? (i := 222) (by decide +kernel), List.mem_of_getElem? (i := 956) (by decide +kernel), List.mem_of_getElem? (i := 957) (by decide +kernel)⟩
theorem lw_p18 : lw_okq (⟨"LilyWheels$Slots", "kept", "(I)LLilyWheels$Pond;"⟩, 2) := ⟨⟨by decide +kernel, by decide +kernel⟩, List.mem_of_getElem? (i := 207) (by decide +kernel), List.mem_of_getElem? (i := 989) (by decide +kernel), List.mem_of_getElem? (i := 990) (by decide +kernel)⟩
theorem lw_p19 : lw_okq (⟨"LilyWheels$Search", "correctAll", "()Z"⟩, 10) := ⟨⟨by decide +kernel, by decide +kernel⟩, List.mem_of_getElem? (i := 222) (by decide +kernel), List.mem_of_getElem? (i := 1041) (by decide +kernel), List.mem_of_getElem? (i := 1042) (by decide +kernel)⟩
theorem lw_p20 : lw_okq (⟨"LilyWheels$Search", "correct", "(I)Z"⟩, 10) := ⟨⟨by decide +kernel, by decide +kernel⟩, List.mem_of_getElem? (i := 222) (by decide +kernel), List.mem_of_getElem? (i := 1045) (by decide +kernel), List.mem_of_getElem? (i := 1046) (by decide +kernel)⟩
def lw_privs_2 : List (MethodName × Nat) := [(⟨"LilyWheels$Search", "couldBeTurned", "(I)Z"⟩, 10), (⟨"LilyWheels$Search", "after", "(II)I"⟩, 10), (⟨"LilyWheels$Slots", "kept", "(I)LLilyWheels$Pond;"⟩, 2), (⟨"LilyWheels$Search", "correctAll", "()Z"⟩, 10), (⟨"LilyWheels$Search", "correct", "(I)Z"⟩, 10)]
theorem lw_r2 : ∀ q ∈ lw_privs_2, lw_okq q := List.forall_mem_cons.mpr ⟨lw_p16, List.forall_mem_cons.mpr ⟨lw_p17, List.forall_mem_cons.mpr ⟨lw_p18, List.forall_mem_cons.mpr ⟨lw_p19, List.forall_mem_cons.mpr ⟨lw_p20, fun _ h => absurd h List.not_mem_nil⟩⟩⟩⟩⟩
def lw_privs : List (MethodName × Nat) := lw_privs_1 ++ (lw_privs_2)
def lw_tbl : List Cond := k2_sels lw_privs ++ tables_1
theorem lw_privs_ok : ∀ q ∈ lw_privs, lw_okq q := by
  show ∀ q ∈ lw_privs_1 ++ (lw_privs_2), lw_okq q
  exact List.forall_mem_append.mpr ⟨lw_r1, lw_r2⟩
/-- the words that stay true as the machine goes on -/
def ri_LW : List Cond := lw_tbl.filter ri_good
theorem ri_LWok : ∀ w ∈ ri_LW, ri_good w = true := fun w h => (List.mem_filter.mp h).2
theorem ri_inn {w : Cond} {i : Nat} (h : lw_tbl[i]? = some w) (hg : ri_good w = true) : w ∈ ri_LW := List.mem_filter.mpr ⟨List.mem_of_getElem? h, hg⟩
def RX0 : String := "LilyWheels$Frogs"
def TX0 : u_T := fun k => match k with
  | 0 => ("LilyWheels$Frogs", "count", "I", false)
  | 1 => ("LilyWheels$Frogs", "weight", "[I", true)
  | 2 => ("LilyWheels$Frogs", "wheel", "[I", true)
  | 3 => ("LilyWheels$Frogs", "pad", "[I", true)
  | 4 => ("LilyWheels$Frogs", "ate", "[I", true)
  | _ => ("LilyWheels$Frogs", "moves", "[I", true)
def tyX0 : Nat → FieldType := fun k => match k with
  | 0 => .int
  | 1 => .array .int
  | 2 => .array .int
  | 3 => .array .int
  | 4 => .array .int
  | _ => .array .int
theorem nmX0 : ∀ a, a < 6 → ∀ b, b < 6 → a ≠ b → (TX0 a).2.1 ≠ (TX0 b).2.1 := by decide +kernel
theorem tyX0_ok : ∀ k, k < 6 → parseFieldDescriptor (TX0 k).2.2.1 = some (tyX0 k) := by decide +kernel
def RX1 : String := "LilyWheels$History"
def TX1 : u_T := fun k => match k with
  | 0 => ("LilyWheels$History", "ring", "[LLilyWheels$Pond;", true)
  | 1 => ("LilyWheels$History", "oldest", "I", false)
  | _ => ("LilyWheels$History", "count", "I", false)
def tyX1 : Nat → FieldType := fun k => match k with
  | 0 => .array (.object "LilyWheels$Pond")
  | 1 => .int
  | _ => .int
theorem nmX1 : ∀ a, a < 3 → ∀ b, b < 3 → a ≠ b → (TX1 a).2.1 ≠ (TX1 b).2.1 := by decide +kernel
theorem tyX1_ok : ∀ k, k < 3 → parseFieldDescriptor (TX1 k).2.2.1 = some (tyX1 k) := by decide +kernel
def RX2 : String := "LilyWheels$Lines"
def TX2 : u_T := fun k => match k with
  | 0 => ("LilyWheels$Lines", "count", "I", false)
  | 1 => ("LilyWheels$Lines", "first", "[I", true)
  | _ => ("LilyWheels$Lines", "other", "[I", true)
def tyX2 : Nat → FieldType := fun k => match k with
  | 0 => .int
  | 1 => .array .int
  | _ => .array .int
theorem nmX2 : ∀ a, a < 3 → ∀ b, b < 3 → a ≠ b → (TX2 a).2.1 ≠ (TX2 b).2.1 := by decide +kernel
theorem tyX2_ok : ∀ k, k < 3 → parseFieldDescriptor (TX2 k).2.2.1 = some (tyX2 k) := by decide +kernel
def RX3 : String := "LilyWheels$Pond"
def TX3 : u_T := fun k => match k with
  | 0 => ("LilyWheels$Pond", "wheels", "LLilyWheels$Wheels;", true)
  | 1 => ("LilyWheels$Pond", "lines", "LLilyWheels$Lines;", true)
  | 2 => ("LilyWheels$Pond", "frogs", "LLilyWheels$Frogs;", true)
  | 3 => ("LilyWheels$Pond", "moves", "I", false)
  | 4 => ("LilyWheels$Pond", "eaten", "I", false)
  | 5 => ("LilyWheels$Pond", "goneOff", "I", false)
  | 6 => ("LilyWheels$Pond", "came", "I", false)
  | 7 => ("LilyWheels$Pond", "latest", "I", false)
  | _ => ("LilyWheels$Pond", "setting", "I", false)
def tyX3 : Nat → FieldType := fun k => match k with
  | 0 => .object "LilyWheels$Wheels"
  | 1 => .object "LilyWheels$Lines"
  | 2 => .object "LilyWheels$Frogs"
  | 3 => .int
  | 4 => .int
  | 5 => .int
  | 6 => .int
  | 7 => .int
  | _ => .int
theorem nmX3 : ∀ a, a < 9 → ∀ b, b < 9 → a ≠ b → (TX3 a).2.1 ≠ (TX3 b).2.1 := by decide +kernel
theorem tyX3_ok : ∀ k, k < 9 → parseFieldDescriptor (TX3 k).2.2.1 = some (tyX3 k) := by decide +kernel
def RX5 : String := "LilyWheels$Search"
def TX5 : u_T := fun k => match k with
  | 0 => ("LilyWheels$Search", "turnWhenLeft", "[I", true)
  | 1 => ("LilyWheels$Search", "couldTurnTo", "[I", true)
  | 2 => ("LilyWheels$Search", "taken", "[I", true)
  | 3 => ("LilyWheels$Search", "padBelow", "[I", true)
  | 4 => ("LilyWheels$Search", "ways", "[I", true)
  | 5 => ("LilyWheels$Search", "wayCount", "[I", true)
  | 6 => ("LilyWheels$Search", "far", "[I", true)
  | 7 => ("LilyWheels$Search", "queue", "[I", true)
  | 8 => ("LilyWheels$Search", "fliesLeft", "[I", true)
  | _ => ("LilyWheels$Search", "now", "I", false)
def tyX5 : Nat → FieldType := fun k => match k with
  | 0 => .array .int
  | 1 => .array .int
  | 2 => .array .int
  | 3 => .array .int
  | 4 => .array .int
  | 5 => .array .int
  | 6 => .array .int
  | 7 => .array .int
  | 8 => .array .int
  | _ => .int
theorem nmX5 : ∀ a, a < 10 → ∀ b, b < 10 → a ≠ b → (TX5 a).2.1 ≠ (TX5 b).2.1 := by decide +kernel
theorem tyX5_ok : ∀ k, k < 10 → parseFieldDescriptor (TX5 k).2.2.1 = some (tyX5 k) := by decide +kernel
def RX7 : String := "LilyWheels$Slots"
def TX7 : u_T := fun k => match k with
  | 0 => ("LilyWheels$Slots", "ponds", "[LLilyWheels$Pond;", true)
  | _ => ("LilyWheels$Slots", "full", "[I", true)
def tyX7 : Nat → FieldType := fun k => match k with
  | 0 => .array (.object "LilyWheels$Pond")
  | _ => .array .int
theorem nmX7 : ∀ a, a < 2 → ∀ b, b < 2 → a ≠ b → (TX7 a).2.1 ≠ (TX7 b).2.1 := by decide +kernel
theorem tyX7_ok : ∀ k, k < 2 → parseFieldDescriptor (TX7 k).2.2.1 = some (tyX7 k) := by decide +kernel
def RX8 : String := "LilyWheels$Text"
def TX8 : u_T := fun k => match k with
  | 0 => ("LilyWheels$Text", "signs", "[I", true)
  | _ => ("LilyWheels$Text", "length", "I", false)
def tyX8 : Nat → FieldType := fun k => match k with
  | 0 => .array .int
  | _ => .int
theorem nmX8 : ∀ a, a < 2 → ∀ b, b < 2 → a ≠ b → (TX8 a).2.1 ≠ (TX8 b).2.1 := by decide +kernel
theorem tyX8_ok : ∀ k, k < 2 → parseFieldDescriptor (TX8 k).2.2.1 = some (tyX8 k) := by decide +kernel
def RX9 : String := "LilyWheels$Wheels"
def TX9 : u_T := fun k => match k with
  | 0 => ("LilyWheels$Wheels", "count", "I", false)
  | 1 => ("LilyWheels$Wheels", "places", "[I", true)
  | 2 => ("LilyWheels$Wheels", "notch", "[I", true)
  | 3 => ("LilyWheels$Wheels", "strength", "[I", true)
  | 4 => ("LilyWheels$Wheels", "turn", "[I", true)
  | 5 => ("LilyWheels$Wheels", "leftTurns", "[I", true)
  | _ => ("LilyWheels$Wheels", "flies", "[I", true)
def tyX9 : Nat → FieldType := fun k => match k with
  | 0 => .int
  | 1 => .array .int
  | 2 => .array .int
  | 3 => .array .int
  | 4 => .array .int
  | 5 => .array .int
  | _ => .array .int
theorem nmX9 : ∀ a, a < 7 → ∀ b, b < 7 → a ≠ b → (TX9 a).2.1 ≠ (TX9 b).2.1 := by decide +kernel
theorem tyX9_ok : ∀ k, k < 7 → parseFieldDescriptor (TX9 k).2.2.1 = some (tyX9 k) := by decide +kernel
def RX10 : String := "LilyWheels"
def TX10 : u_T := fun k => match k with
  | 0 => ("LilyWheels", "text", "LLilyWheels$Text;", true)
  | 1 => ("LilyWheels", "pond", "LLilyWheels$Pond;", true)
  | 2 => ("LilyWheels", "trial", "LLilyWheels$Pond;", true)
  | 3 => ("LilyWheels", "history", "LLilyWheels$History;", true)
  | 4 => ("LilyWheels", "slots", "LLilyWheels$Slots;", true)
  | _ => ("LilyWheels", "search", "LLilyWheels$Search;", true)
def tyX10 : Nat → FieldType := fun k => match k with
  | 0 => .object "LilyWheels$Text"
  | 1 => .object "LilyWheels$Pond"
  | 2 => .object "LilyWheels$Pond"
  | 3 => .object "LilyWheels$History"
  | 4 => .object "LilyWheels$Slots"
  | _ => .object "LilyWheels$Search"
theorem nmX10 : ∀ a, a < 6 → ∀ b, b < 6 → a ≠ b → (TX10 a).2.1 ≠ (TX10 b).2.1 := by decide +kernel
theorem tyX10_ok : ∀ k, k < 6 → parseFieldDescriptor (TX10 k).2.2.1 = some (tyX10 k) := by decide +kernel
abbrev vwCl : List vw_C := [(RX0, TX0, 6), (RX1, TX1, 3), (RX2, TX2, 3), (RX3, TX3, 9), (RX5, TX5, 10), (RX7, TX7, 2), (RX8, TX8, 2), (RX9, TX9, 7), (RX10, TX10, 6)]
theorem li_X0 : ∀ w ∈ u_ws RX0 TX0 6, w ∈ ri_LW := by decide +kernel
theorem li_X1 : ∀ w ∈ u_ws RX1 TX1 3, w ∈ ri_LW := by decide +kernel
theorem li_X2 : ∀ w ∈ u_ws RX2 TX2 3, w ∈ ri_LW := by decide +kernel
theorem li_X3 : ∀ w ∈ u_ws RX3 TX3 9, w ∈ ri_LW := by decide +kernel
theorem li_X5 : ∀ w ∈ u_ws RX5 TX5 10, w ∈ ri_LW := by decide +kernel
theorem li_X7 : ∀ w ∈ u_ws RX7 TX7 2, w ∈ ri_LW := by decide +kernel
theorem li_X8 : ∀ w ∈ u_ws RX8 TX8 2, w ∈ ri_LW := by decide +kernel
theorem li_X9 : ∀ w ∈ u_ws RX9 TX9 7, w ∈ ri_LW := by decide +kernel
theorem li_X10 : ∀ w ∈ u_ws RX10 TX10 6, w ∈ ri_LW := by decide +kernel
