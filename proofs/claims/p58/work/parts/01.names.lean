-- ===== PART A: goes FIRST, ahead of the names: the tables' words, and 'selects' of the private methods out of them =====
/-- a private method of a class that the tables say can be made, by its rows of tables_1 -/
def lw_okq (q : MethodName × Nat) : Prop := (q.1.cls ≠ "java/lang/invoke/MethodHandle" ∧ q.1.cls ≠ "java/lang/invoke/VarHandle") ∧ Cond.instantiable q.1.cls q.2 ∈ tables_1 ∧ Cond.privateMethod q.1 ∈ tables_1 ∧ Cond.instanceMethod q.1 ∈ tables_1
theorem lw_p0 : lw_okq (⟨"ProphecyShop", "openShop", "()I"⟩, 13) := ⟨⟨by decide +kernel, by decide +kernel⟩, List.mem_of_getElem? (i := 35) (by decide +kernel), List.mem_of_getElem? (i := 450) (by decide +kernel), List.mem_of_getElem? (i := 451) (by decide +kernel)⟩
theorem lw_p1 : lw_okq (⟨"ProphecyShop$SetupReader", "readShop", "(LProphecyShop$Setup;)V"⟩, 6) := ⟨⟨by decide +kernel, by decide +kernel⟩, List.mem_of_getElem? (i := 57) (by decide +kernel), List.mem_of_getElem? (i := 486) (by decide +kernel), List.mem_of_getElem? (i := 487) (by decide +kernel)⟩
theorem lw_p2 : lw_okq (⟨"ProphecyShop$SetupReader", "readNames", "(Ljava/lang/String;LProphecyShop$Names;)V"⟩, 6) := ⟨⟨by decide +kernel, by decide +kernel⟩, List.mem_of_getElem? (i := 57) (by decide +kernel), List.mem_of_getElem? (i := 538) (by decide +kernel), List.mem_of_getElem? (i := 539) (by decide +kernel)⟩
theorem lw_p3 : lw_okq (⟨"ProphecyShop$SetupReader", "readCustomers", "(LProphecyShop$Setup;)V"⟩, 6) := ⟨⟨by decide +kernel, by decide +kernel⟩, List.mem_of_getElem? (i := 57) (by decide +kernel), List.mem_of_getElem? (i := 579) (by decide +kernel), List.mem_of_getElem? (i := 580) (by decide +kernel)⟩
theorem lw_p4 : lw_okq (⟨"ProphecyShop$SetupReader", "readOwls", "(LProphecyShop$Setup;)V"⟩, 6) := ⟨⟨by decide +kernel, by decide +kernel⟩, List.mem_of_getElem? (i := 57) (by decide +kernel), List.mem_of_getElem? (i := 589) (by decide +kernel), List.mem_of_getElem? (i := 590) (by decide +kernel)⟩
theorem lw_p5 : lw_okq (⟨"java/lang/Throwable", "fillInStackTrace", "(I)Ljava/lang/Throwable;"⟩, 6) := ⟨⟨by decide +kernel, by decide +kernel⟩, List.mem_of_getElem? (i := 713) (by decide +kernel), List.mem_of_getElem? (i := 711) (by decide +kernel), List.mem_of_getElem? (i := 712) (by decide +kernel)⟩
theorem lw_p6 : lw_okq (⟨"ProphecyShop", "prophecyWith", "(I)LProphecyShop$Prophecy;"⟩, 13) := ⟨⟨by decide +kernel, by decide +kernel⟩, List.mem_of_getElem? (i := 35) (by decide +kernel), List.mem_of_getElem? (i := 1164) (by decide +kernel), List.mem_of_getElem? (i := 1165) (by decide +kernel)⟩
theorem lw_p7 : lw_okq (⟨"ProphecyShop$Shop", "decideOverdue", "()V"⟩, 15) := ⟨⟨by decide +kernel, by decide +kernel⟩, List.mem_of_getElem? (i := 237) (by decide +kernel), List.mem_of_getElem? (i := 1510) (by decide +kernel), List.mem_of_getElem? (i := 1511) (by decide +kernel)⟩
theorem lw_p8 : lw_okq (⟨"ProphecyShop$Shop", "moveOwls", "()V"⟩, 15) := ⟨⟨by decide +kernel, by decide +kernel⟩, List.mem_of_getElem? (i := 237) (by decide +kernel), List.mem_of_getElem? (i := 1518) (by decide +kernel), List.mem_of_getElem? (i := 1519) (by decide +kernel)⟩
theorem lw_p9 : lw_okq (⟨"ProphecyShop$Shop", "addCoins", "(II)V"⟩, 15) := ⟨⟨by decide +kernel, by decide +kernel⟩, List.mem_of_getElem? (i := 237) (by decide +kernel), List.mem_of_getElem? (i := 1530) (by decide +kernel), List.mem_of_getElem? (i := 1531) (by decide +kernel)⟩
theorem lw_p10 : lw_okq (⟨"ProphecyShop$Shop", "handleFirstRequest", "()Z"⟩, 15) := ⟨⟨by decide +kernel, by decide +kernel⟩, List.mem_of_getElem? (i := 237) (by decide +kernel), List.mem_of_getElem? (i := 1534) (by decide +kernel), List.mem_of_getElem? (i := 1535) (by decide +kernel)⟩
theorem lw_p11 : lw_okq (⟨"ProphecyShop$Shop", "firstIdleOwl", "()I"⟩, 15) := ⟨⟨by decide +kernel, by decide +kernel⟩, List.mem_of_getElem? (i := 237) (by decide +kernel), List.mem_of_getElem? (i := 1541) (by decide +kernel), List.mem_of_getElem? (i := 1542) (by decide +kernel)⟩
theorem lw_p12 : lw_okq (⟨"ProphecyShop$Shop", "pay", "(LProphecyShop$Prophecy;I)V"⟩, 15) := ⟨⟨by decide +kernel, by decide +kernel⟩, List.mem_of_getElem? (i := 237) (by decide +kernel), List.mem_of_getElem? (i := 1546) (by decide +kernel), List.mem_of_getElem? (i := 1547) (by decide +kernel)⟩
theorem lw_p13 : lw_okq (⟨"ProphecyShop$Shop", "removeFirstRequest", "()V"⟩, 15) := ⟨⟨by decide +kernel, by decide +kernel⟩, List.mem_of_getElem? (i := 237) (by decide +kernel), List.mem_of_getElem? (i := 1558) (by decide +kernel), List.mem_of_getElem? (i := 1559) (by decide +kernel)⟩
theorem lw_p14 : lw_okq (⟨"ProphecyShop", "sellAny", "(IIIIIII)I"⟩, 13) := ⟨⟨by decide +kernel, by decide +kernel⟩, List.mem_of_getElem? (i := 35) (by decide +kernel), List.mem_of_getElem? (i := 1585) (by decide +kernel), List.mem_of_getElem? (i := 1586) (by decide +kernel)⟩
theorem lw_p15 : lw_okq (⟨"ProphecyShop$History", "forgetOldest", "()V"⟩, 2) := ⟨⟨by decide +kernel, by decide +kernel⟩, List.mem_of_getElem? (i := 379) (by decide +kernel), List.mem_of_getElem? (i := 1605) (by decide +kernel), List.mem_of_getElem? (i := 1606) (by decide +kernel)⟩
def lw_privs_1 : List (MethodName × Nat) := [(⟨"ProphecyShop", "openShop", "()I"⟩, 13), (⟨"ProphecyShop$SetupReader", "readShop", "(LProphecyShop$Setup;)V"⟩, 6), (⟨"ProphecyShop$SetupReader", "readNames", "(Ljava/lang/String;LProphecyShop$Names;)V"⟩, 6), (⟨"ProphecyShop$SetupReader", "readCustomers", "(LProphecyShop$Setup;)V"⟩, 6), (⟨"ProphecyShop$SetupReader", "readOwls", "(LProphecyShop$Setup;)V"⟩, 6), (⟨"java/lang/Throwable", "fillInStackTrace", "(I)Ljava/lang/Throwable;"⟩, 6), (⟨"ProphecyShop", "prophecyWith", "(I)LProphecyShop$Prophecy;"⟩, 13), (⟨"ProphecyShop$Shop", "decideOverdue", "()V"⟩, 15), (⟨"ProphecyShop$Shop", "moveOwls", "()V"⟩, 15), (⟨"ProphecyShop$Shop", "addCoins", "(II)V"⟩, 15), (⟨"ProphecyShop$Shop", "handleFirstRequest", "()Z"⟩, 15), (⟨"ProphecyShop$Shop", "firstIdleOwl", "()I"⟩, 15), (⟨"ProphecyShop$Shop", "pay", "(LProphecyShop$Prophecy;I)V"⟩, 15), (⟨"ProphecyShop$Shop", "removeFirstRequest", "()V"⟩, 15), (⟨"ProphecyShop", "sellAny", "(IIIIIII)I"⟩, 13), (⟨"ProphecyShop$History", "forgetOldest", "()V"⟩, 2)]
theorem lw_r1 : ∀ q ∈ lw_privs_1, lw_okq q := List.forall_mem_cons.mpr ⟨lw_p0, List.forall_mem_cons.mpr ⟨lw_p1, List.forall_mem_cons.mpr ⟨lw_p2, List.forall_mem_cons.mpr ⟨lw_p3, List.forall_mem_cons.mpr ⟨lw_p4, List.forall_mem_cons.mpr ⟨lw_p5, List.forall_mem_cons.mpr ⟨lw_p6, List.forall_mem_cons.mpr ⟨lw_p7, List.forall_mem_cons.mpr ⟨lw_p8, List.forall_mem_cons.mpr ⟨lw_p9, List.forall_mem_cons.mpr ⟨lw_p10, List.forall_mem_cons.mpr ⟨lw_p11, List.forall_mem_cons.mpr ⟨lw_p12, List.forall_mem_cons.mpr ⟨lw_p13, List.forall_mem_cons.mpr ⟨lw_p14, List.forall_mem_cons.mpr ⟨lw_p15, fun _ h => absurd h List.not_mem_nil⟩⟩⟩⟩⟩⟩⟩⟩⟩⟩⟩⟩⟩⟩⟩⟩
def lw_privs : List (MethodName × Nat) := lw_privs_1
def lw_tbl : List Cond := k2_sels lw_privs ++ tables_1
theorem lw_privs_ok : ∀ q ∈ lw_privs, lw_okq q := lw_r1
/-- the streams that the claim lets the run draw from -/
abbrev lw_cs : List Choice := [Jvm.Choice.named "NaN.bits"]
theorem lw_bits : nanBits ∈ lw_cs := by first | decide | exact List.mem_cons_self | simp [lw_cs, nanBits]

def RX0 : String := "ProphecyShop$History"
def TX0 : u_T := fun k => match k with
  | 0 => ("ProphecyShop$History", "before", "[LProphecyShop$Shop;", true)
  | _ => ("ProphecyShop$History", "count", "I", false)
def tyX0 : Nat → FieldType := fun k => match k with
  | 0 => .array (.object "ProphecyShop$Shop")
  | _ => .int
theorem nmX0 : ∀ a, a < 2 → ∀ b, b < 2 → a ≠ b → (TX0 a).2.1 ≠ (TX0 b).2.1 := by decide +kernel
theorem tyX0_ok : ∀ k, k < 2 → parseFieldDescriptor (TX0 k).2.2.1 = some (tyX0 k) := by decide +kernel
def RX1 : String := "ProphecyShop$Names"
def TX1 : u_T := fun k => match k with
  | 0 => ("ProphecyShop$Names", "codes", "[I", true)
  | _ => ("ProphecyShop$Names", "count", "I", false)
def tyX1 : Nat → FieldType := fun k => match k with
  | 0 => .array .int
  | _ => .int
theorem nmX1 : ∀ a, a < 2 → ∀ b, b < 2 → a ≠ b → (TX1 a).2.1 ≠ (TX1 b).2.1 := by decide +kernel
theorem tyX1_ok : ∀ k, k < 2 → parseFieldDescriptor (TX1 k).2.2.1 = some (tyX1 k) := by decide +kernel
def RX2 : String := "ProphecyShop$Owl"
def TX2 : u_T := fun k => match k with
  | 0 => ("ProphecyShop$Owl", "days", "I", false)
  | 1 => ("ProphecyShop$Owl", "coins", "I", false)
  | 2 => ("ProphecyShop$Owl", "customer", "I", false)
  | 3 => ("ProphecyShop$Owl", "flight", "I", false)
  | _ => ("ProphecyShop$Owl", "outward", "Z", false)
def tyX2 : Nat → FieldType := fun k => match k with
  | 0 => .int
  | 1 => .int
  | 2 => .int
  | 3 => .int
  | _ => .boolean
theorem nmX2 : ∀ a, a < 5 → ∀ b, b < 5 → a ≠ b → (TX2 a).2.1 ≠ (TX2 b).2.1 := by decide +kernel
theorem tyX2_ok : ∀ k, k < 5 → parseFieldDescriptor (TX2 k).2.2.1 = some (tyX2 k) := by decide +kernel
def RX3 : String := "ProphecyShop$Prophecy"
def TX3 : u_T := fun k => match k with
  | 0 => ("ProphecyShop$Prophecy", "customer", "I", false)
  | 1 => ("ProphecyShop$Prophecy", "kind", "I", false)
  | 2 => ("ProphecyShop$Prophecy", "event", "I", false)
  | 3 => ("ProphecyShop$Prophecy", "place", "I", false)
  | 4 => ("ProphecyShop$Prophecy", "first", "I", false)
  | 5 => ("ProphecyShop$Prophecy", "last", "I", false)
  | 6 => ("ProphecyShop$Prophecy", "price", "I", false)
  | 7 => ("ProphecyShop$Prophecy", "state", "I", false)
  | 8 => ("ProphecyShop$Prophecy", "decided", "I", false)
  | _ => ("ProphecyShop$Prophecy", "answer", "I", false)
def tyX3 : Nat → FieldType := fun k => match k with
  | 0 => .int
  | 1 => .int
  | 2 => .int
  | 3 => .int
  | 4 => .int
  | 5 => .int
  | 6 => .int
  | 7 => .int
  | 8 => .int
  | _ => .int
theorem nmX3 : ∀ a, a < 10 → ∀ b, b < 10 → a ≠ b → (TX3 a).2.1 ≠ (TX3 b).2.1 := by decide +kernel
theorem tyX3_ok : ∀ k, k < 10 → parseFieldDescriptor (TX3 k).2.2.1 = some (tyX3 k) := by decide +kernel
def RX5 : String := "ProphecyShop$Script"
def TX5 : u_T := fun k => match k with
  | 0 => ("ProphecyShop$Reader", "text", "LProphecyShop$Text;", true)
  | 1 => ("ProphecyShop$Reader", "kind", "I", false)
  | 2 => ("ProphecyShop$Reader", "start", "I", false)
  | 3 => ("ProphecyShop$Reader", "end", "I", false)
  | 4 => ("ProphecyShop$Reader", "error", "I", false)
  | 5 => ("ProphecyShop$Reader", "errorPosition", "I", false)
  | 6 => ("ProphecyShop$Script", "steps", "[LProphecyShop$Step;", true)
  | 7 => ("ProphecyShop$Script", "stepCount", "I", false)
  | 8 => ("ProphecyShop$Script", "commandCount", "I", false)
  | 9 => ("ProphecyShop$Script", "openRepeats", "[I", true)
  | _ => ("ProphecyShop$Script", "depth", "I", false)
def tyX5 : Nat → FieldType := fun k => match k with
  | 0 => .object "ProphecyShop$Text"
  | 1 => .int
  | 2 => .int
  | 3 => .int
  | 4 => .int
  | 5 => .int
  | 6 => .array (.object "ProphecyShop$Step")
  | 7 => .int
  | 8 => .int
  | 9 => .array .int
  | _ => .int
theorem nmX5 : ∀ a, a < 11 → ∀ b, b < 11 → a ≠ b → (TX5 a).2.1 ≠ (TX5 b).2.1 := by decide +kernel
theorem tyX5_ok : ∀ k, k < 11 → parseFieldDescriptor (TX5 k).2.2.1 = some (tyX5 k) := by decide +kernel
def RX6 : String := "ProphecyShop$Setup"
def TX6 : u_T := fun k => match k with
  | 0 => ("ProphecyShop$Setup", "cash", "I", false)
  | 1 => ("ProphecyShop$Setup", "rate", "I", false)
  | 2 => ("ProphecyShop$Setup", "grace", "I", false)
  | 3 => ("ProphecyShop$Setup", "percentage", "I", false)
  | 4 => ("ProphecyShop$Setup", "vaguePercentage", "I", false)
  | 5 => ("ProphecyShop$Setup", "events", "LProphecyShop$Names;", true)
  | 6 => ("ProphecyShop$Setup", "places", "LProphecyShop$Names;", true)
  | 7 => ("ProphecyShop$Setup", "customers", "LProphecyShop$Names;", true)
  | 8 => ("ProphecyShop$Setup", "purses", "[I", true)
  | 9 => ("ProphecyShop$Setup", "distances", "[I", true)
  | 10 => ("ProphecyShop$Setup", "speeds", "[I", true)
  | _ => ("ProphecyShop$Setup", "owlCount", "I", false)
def tyX6 : Nat → FieldType := fun k => match k with
  | 0 => .int
  | 1 => .int
  | 2 => .int
  | 3 => .int
  | 4 => .int
  | 5 => .object "ProphecyShop$Names"
  | 6 => .object "ProphecyShop$Names"
  | 7 => .object "ProphecyShop$Names"
  | 8 => .array .int
  | 9 => .array .int
  | 10 => .array .int
  | _ => .int
theorem nmX6 : ∀ a, a < 12 → ∀ b, b < 12 → a ≠ b → (TX6 a).2.1 ≠ (TX6 b).2.1 := by decide +kernel
theorem tyX6_ok : ∀ k, k < 12 → parseFieldDescriptor (TX6 k).2.2.1 = some (tyX6 k) := by decide +kernel
def RX7 : String := "ProphecyShop$SetupReader"
def TX7 : u_T := fun k => match k with
  | 0 => ("ProphecyShop$Reader", "text", "LProphecyShop$Text;", true)
  | 1 => ("ProphecyShop$Reader", "kind", "I", false)
  | 2 => ("ProphecyShop$Reader", "start", "I", false)
  | 3 => ("ProphecyShop$Reader", "end", "I", false)
  | 4 => ("ProphecyShop$Reader", "error", "I", false)
  | _ => ("ProphecyShop$Reader", "errorPosition", "I", false)
def tyX7 : Nat → FieldType := fun k => match k with
  | 0 => .object "ProphecyShop$Text"
  | 1 => .int
  | 2 => .int
  | 3 => .int
  | 4 => .int
  | _ => .int
theorem nmX7 : ∀ a, a < 6 → ∀ b, b < 6 → a ≠ b → (TX7 a).2.1 ≠ (TX7 b).2.1 := by decide +kernel
theorem tyX7_ok : ∀ k, k < 6 → parseFieldDescriptor (TX7 k).2.2.1 = some (tyX7 k) := by decide +kernel
def RX8 : String := "ProphecyShop$Shop"
def TX8 : u_T := fun k => match k with
  | 0 => ("ProphecyShop$Shop", "setup", "LProphecyShop$Setup;", false)
  | 1 => ("ProphecyShop$Shop", "day", "I", false)
  | 2 => ("ProphecyShop$Shop", "cash", "I", false)
  | 3 => ("ProphecyShop$Shop", "purses", "[I", true)
  | 4 => ("ProphecyShop$Shop", "sold", "[LProphecyShop$Prophecy;", true)
  | 5 => ("ProphecyShop$Shop", "soldCount", "I", false)
  | 6 => ("ProphecyShop$Shop", "owls", "[LProphecyShop$Owl;", true)
  | 7 => ("ProphecyShop$Shop", "queue", "[I", true)
  | 8 => ("ProphecyShop$Shop", "waiting", "I", false)
  | 9 => ("ProphecyShop$Shop", "notedEvents", "[I", true)
  | 10 => ("ProphecyShop$Shop", "notedPlaces", "[I", true)
  | 11 => ("ProphecyShop$Shop", "notedDays", "[I", true)
  | 12 => ("ProphecyShop$Shop", "notedCount", "I", false)
  | 13 => ("ProphecyShop$Shop", "handled", "I", false)
  | _ => ("ProphecyShop$Shop", "paidOut", "I", false)
def tyX8 : Nat → FieldType := fun k => match k with
  | 0 => .object "ProphecyShop$Setup"
  | 1 => .int
  | 2 => .int
  | 3 => .array .int
  | 4 => .array (.object "ProphecyShop$Prophecy")
  | 5 => .int
  | 6 => .array (.object "ProphecyShop$Owl")
  | 7 => .array .int
  | 8 => .int
  | 9 => .array .int
  | 10 => .array .int
  | 11 => .array .int
  | 12 => .int
  | 13 => .int
  | _ => .int
theorem nmX8 : ∀ a, a < 15 → ∀ b, b < 15 → a ≠ b → (TX8 a).2.1 ≠ (TX8 b).2.1 := by decide +kernel
theorem tyX8_ok : ∀ k, k < 15 → parseFieldDescriptor (TX8 k).2.2.1 = some (tyX8 k) := by decide +kernel
def RX9 : String := "ProphecyShop$Step"
def TX9 : u_T := fun k => match k with
  | 0 => ("ProphecyShop$Step", "act", "I", false)
  | 1 => ("ProphecyShop$Step", "customer", "I", false)
  | 2 => ("ProphecyShop$Step", "kind", "I", false)
  | 3 => ("ProphecyShop$Step", "event", "I", false)
  | 4 => ("ProphecyShop$Step", "place", "I", false)
  | 5 => ("ProphecyShop$Step", "delay", "I", false)
  | 6 => ("ProphecyShop$Step", "length", "I", false)
  | 7 => ("ProphecyShop$Step", "price", "I", false)
  | 8 => ("ProphecyShop$Step", "number", "I", false)
  | 9 => ("ProphecyShop$Step", "partner", "I", false)
  | _ => ("ProphecyShop$Step", "roundsLeft", "I", false)
def tyX9 : Nat → FieldType := fun k => match k with
  | 0 => .int
  | 1 => .int
  | 2 => .int
  | 3 => .int
  | 4 => .int
  | 5 => .int
  | 6 => .int
  | 7 => .int
  | 8 => .int
  | 9 => .int
  | _ => .int
theorem nmX9 : ∀ a, a < 11 → ∀ b, b < 11 → a ≠ b → (TX9 a).2.1 ≠ (TX9 b).2.1 := by decide +kernel
theorem tyX9_ok : ∀ k, k < 11 → parseFieldDescriptor (TX9 k).2.2.1 = some (tyX9 k) := by decide +kernel
def RX10 : String := "ProphecyShop$Text"
def TX10 : u_T := fun k => match k with
  | 0 => ("ProphecyShop$Text", "bytes", "[I", true)
  | _ => ("ProphecyShop$Text", "length", "I", false)
def tyX10 : Nat → FieldType := fun k => match k with
  | 0 => .array .int
  | _ => .int
theorem nmX10 : ∀ a, a < 2 → ∀ b, b < 2 → a ≠ b → (TX10 a).2.1 ≠ (TX10 b).2.1 := by decide +kernel
theorem tyX10_ok : ∀ k, k < 2 → parseFieldDescriptor (TX10 k).2.2.1 = some (tyX10 k) := by decide +kernel
def RX11 : String := "ProphecyShop"
def TX11 : u_T := fun k => match k with
  | 0 => ("ProphecyShop", "text", "LProphecyShop$Text;", true)
  | 1 => ("ProphecyShop", "setupReader", "LProphecyShop$SetupReader;", true)
  | 2 => ("ProphecyShop", "script", "LProphecyShop$Script;", true)
  | 3 => ("ProphecyShop", "setup", "LProphecyShop$Setup;", false)
  | 4 => ("ProphecyShop", "draft", "LProphecyShop$Setup;", false)
  | 5 => ("ProphecyShop", "shop", "LProphecyShop$Shop;", true)
  | 6 => ("ProphecyShop", "forecast", "LProphecyShop$Shop;", true)
  | 7 => ("ProphecyShop", "history", "LProphecyShop$History;", true)
  | 8 => ("ProphecyShop", "slots", "[LProphecyShop$Shop;", true)
  | 9 => ("ProphecyShop", "slotFilled", "[Z", true)
  | 10 => ("ProphecyShop", "latestError", "I", false)
  | 11 => ("ProphecyShop", "latestErrorPosition", "I", false)
  | _ => ("ProphecyShop", "output", "Ljava/lang/String;", false)
def tyX11 : Nat → FieldType := fun k => match k with
  | 0 => .object "ProphecyShop$Text"
  | 1 => .object "ProphecyShop$SetupReader"
  | 2 => .object "ProphecyShop$Script"
  | 3 => .object "ProphecyShop$Setup"
  | 4 => .object "ProphecyShop$Setup"
  | 5 => .object "ProphecyShop$Shop"
  | 6 => .object "ProphecyShop$Shop"
  | 7 => .object "ProphecyShop$History"
  | 8 => .array (.object "ProphecyShop$Shop")
  | 9 => .array .boolean
  | 10 => .int
  | 11 => .int
  | _ => .object "java/lang/String"
theorem nmX11 : ∀ a, a < 13 → ∀ b, b < 13 → a ≠ b → (TX11 a).2.1 ≠ (TX11 b).2.1 := by decide +kernel
theorem tyX11_ok : ∀ k, k < 13 → parseFieldDescriptor (TX11 k).2.2.1 = some (tyX11 k) := by decide +kernel
def RX12 : String := "ProphecyShopLaw$Own"
def TX12 : u_T := fun k => match k with
  | 0 => ("ProphecyShopLaw$Own", "cash", "I", false)
  | 1 => ("ProphecyShopLaw$Own", "rate", "I", false)
  | 2 => ("ProphecyShopLaw$Own", "grace", "I", false)
  | 3 => ("ProphecyShopLaw$Own", "percent", "I", false)
  | 4 => ("ProphecyShopLaw$Own", "vague", "I", false)
  | 5 => ("ProphecyShopLaw$Own", "day", "I", false)
  | 6 => ("ProphecyShopLaw$Own", "events", "I", false)
  | 7 => ("ProphecyShopLaw$Own", "places", "I", false)
  | 8 => ("ProphecyShopLaw$Own", "customers", "I", false)
  | 9 => ("ProphecyShopLaw$Own", "owls", "I", false)
  | 10 => ("ProphecyShopLaw$Own", "sold", "I", false)
  | 11 => ("ProphecyShopLaw$Own", "notes", "I", false)
  | 12 => ("ProphecyShopLaw$Own", "waiting", "I", false)
  | 13 => ("ProphecyShopLaw$Own", "handled", "I", false)
  | 14 => ("ProphecyShopLaw$Own", "paid", "I", false)
  | 15 => ("ProphecyShopLaw$Own", "purse", "[I", true)
  | 16 => ("ProphecyShopLaw$Own", "far", "[I", true)
  | 17 => ("ProphecyShopLaw$Own", "speed", "[I", true)
  | 18 => ("ProphecyShopLaw$Own", "days", "[I", true)
  | 19 => ("ProphecyShopLaw$Own", "coins", "[I", true)
  | 20 => ("ProphecyShopLaw$Own", "to", "[I", true)
  | 21 => ("ProphecyShopLaw$Own", "trip", "[I", true)
  | 22 => ("ProphecyShopLaw$Own", "who", "[I", true)
  | 23 => ("ProphecyShopLaw$Own", "event", "[I", true)
  | 24 => ("ProphecyShopLaw$Own", "place", "[I", true)
  | 25 => ("ProphecyShopLaw$Own", "from", "[I", true)
  | 26 => ("ProphecyShopLaw$Own", "until", "[I", true)
  | 27 => ("ProphecyShopLaw$Own", "price", "[I", true)
  | 28 => ("ProphecyShopLaw$Own", "state", "[I", true)
  | 29 => ("ProphecyShopLaw$Own", "decided", "[I", true)
  | 30 => ("ProphecyShopLaw$Own", "answer", "[I", true)
  | 31 => ("ProphecyShopLaw$Own", "line", "[I", true)
  | 32 => ("ProphecyShopLaw$Own", "denies", "[Z", true)
  | 33 => ("ProphecyShopLaw$Own", "noteCell", "[I", true)
  | _ => ("ProphecyShopLaw$Own", "noteDay", "[I", true)
def tyX12 : Nat → FieldType := fun k => match k with
  | 0 => .int
  | 1 => .int
  | 2 => .int
  | 3 => .int
  | 4 => .int
  | 5 => .int
  | 6 => .int
  | 7 => .int
  | 8 => .int
  | 9 => .int
  | 10 => .int
  | 11 => .int
  | 12 => .int
  | 13 => .int
  | 14 => .int
  | 15 => .array .int
  | 16 => .array .int
  | 17 => .array .int
  | 18 => .array .int
  | 19 => .array .int
  | 20 => .array .int
  | 21 => .array .int
  | 22 => .array .int
  | 23 => .array .int
  | 24 => .array .int
  | 25 => .array .int
  | 26 => .array .int
  | 27 => .array .int
  | 28 => .array .int
  | 29 => .array .int
  | 30 => .array .int
  | 31 => .array .int
  | 32 => .array .boolean
  | 33 => .array .int
  | _ => .array .int
theorem nmX12 : ∀ a, a < 35 → ∀ b, b < 35 → a ≠ b → (TX12 a).2.1 ≠ (TX12 b).2.1 := by decide +kernel
theorem tyX12_ok : ∀ k, k < 35 → parseFieldDescriptor (TX12 k).2.2.1 = some (tyX12 k) := by decide +kernel
def RJ0 : String := "java/lang/String"
def TJ0 : u_T := fun k => match k with
  | 0 => ("java/lang/String", "value", "[B", true)
  | 1 => ("java/lang/String", "coder", "B", true)
  | 2 => ("java/lang/String", "hash", "I", false)
  | _ => ("java/lang/String", "hashIsZero", "Z", false)
def tyJ0 : Nat → FieldType := fun k => match k with
  | 0 => .array .byte
  | 1 => .byte
  | 2 => .int
  | _ => .boolean
theorem nmJ0 : ∀ a, a < 4 → ∀ b, b < 4 → a ≠ b → (TJ0 a).2.1 ≠ (TJ0 b).2.1 := by decide +kernel
theorem tyJ0_ok : ∀ k, k < 4 → parseFieldDescriptor (TJ0 k).2.2.1 = some (tyJ0 k) := by decide +kernel
def RJ4 : String := "java/lang/StringBuilder"
def TJ4 : u_T := fun k => match k with
  | 0 => ("java/lang/AbstractStringBuilder", "value", "[B", false)
  | 1 => ("java/lang/AbstractStringBuilder", "coder", "B", false)
  | 2 => ("java/lang/AbstractStringBuilder", "maybeLatin1", "Z", false)
  | _ => ("java/lang/AbstractStringBuilder", "count", "I", false)
def tyJ4 : Nat → FieldType := fun k => match k with
  | 0 => .array .byte
  | 1 => .byte
  | 2 => .boolean
  | _ => .int
theorem nmJ4 : ∀ a, a < 4 → ∀ b, b < 4 → a ≠ b → (TJ4 a).2.1 ≠ (TJ4 b).2.1 := by decide +kernel
theorem tyJ4_ok : ∀ k, k < 4 → parseFieldDescriptor (TJ4 k).2.2.1 = some (tyJ4 k) := by decide +kernel
def RL : String := "ProphecyShopLaw"
abbrev vwCl : List vw_C := [(RJ0, TJ0, 4), (RJ4, TJ4, 4), (RX0, TX0, 2), (RX1, TX1, 2), (RX2, TX2, 5), (RX3, TX3, 10), (RX5, TX5, 11), (RX6, TX6, 12), (RX7, TX7, 6), (RX8, TX8, 15), (RX9, TX9, 11), (RX10, TX10, 2), (RX11, TX11, 13), (RX12, TX12, 35), (RJ0, TJ0, 2)]
theorem iwTJ0 : ∀ w ∈ u_ws RJ0 TJ0 4, w ∈ lw_tbl := by decide +kernel
theorem iwTJ4 : ∀ w ∈ u_ws RJ4 TJ4 4, w ∈ lw_tbl := by decide +kernel
theorem iwTX0 : ∀ w ∈ u_ws RX0 TX0 2, w ∈ lw_tbl := by decide +kernel
theorem iwTX1 : ∀ w ∈ u_ws RX1 TX1 2, w ∈ lw_tbl := by decide +kernel
theorem iwTX2 : ∀ w ∈ u_ws RX2 TX2 5, w ∈ lw_tbl := by decide +kernel
theorem iwTX3 : ∀ w ∈ u_ws RX3 TX3 10, w ∈ lw_tbl := by decide +kernel
theorem iwTX5 : ∀ w ∈ u_ws RX5 TX5 11, w ∈ lw_tbl := by decide +kernel
theorem iwTX6 : ∀ w ∈ u_ws RX6 TX6 12, w ∈ lw_tbl := by decide +kernel
theorem iwTX7 : ∀ w ∈ u_ws RX7 TX7 6, w ∈ lw_tbl := by decide +kernel
theorem iwTX8 : ∀ w ∈ u_ws RX8 TX8 15, w ∈ lw_tbl := by decide +kernel
theorem iwTX9 : ∀ w ∈ u_ws RX9 TX9 11, w ∈ lw_tbl := by decide +kernel
theorem iwTX10 : ∀ w ∈ u_ws RX10 TX10 2, w ∈ lw_tbl := by decide +kernel
theorem iwTX11 : ∀ w ∈ u_ws RX11 TX11 13, w ∈ lw_tbl := by decide +kernel
theorem iwTX12 : ∀ w ∈ u_ws RX12 TX12 35, w ∈ lw_tbl := by decide +kernel
/-- the String constants: class, entry, text, number among the old cells -/
def rStr : List (String × Nat × String × Nat) := [("ProphecyShop", 76, "", 0), ("ProphecyShop", 82, "shop 100 2 5 100 50; event rain; event war; place inn; place mill; place pass; customer ada 80 4; customer ben 300 9; customer cai 20 15; owl 3; owl 5;", 1), ("ProphecyShop$SetupReader", 57, "shop", 2), ("ProphecyShop$SetupReader", 24, "event", 3), ("ProphecyShop$SetupReader", 34, "place", 4), ("ProphecyShop$SetupReader", 104, "customer", 5), ("ProphecyShop$SetupReader", 113, "owl", 6), ("ProphecyShop", 349, "no change can be undone", 7), ("ProphecyShopLaw", 52, "c", 8), ("ProphecyShopLaw", 68, ":!", 9), ("ProphecyShopLaw", 70, ":", 10), ("ProphecyShopLaw", 72, "e", 11), ("ProphecyShopLaw", 80, "*", 12), ("ProphecyShopLaw", 82, "p", 13), ("ProphecyShop", 370, "no such number", 14), ("ProphecyShop", 227, "the prophecy is open", 15), ("ProphecyShop", 267, "no such state", 16), ("ProphecyShopLaw", 232, ",", 17), ("ProphecyShopLaw", 234, "", 18), ("ProphecyShop", 303, "the days are out of range", 19), ("ProphecyShop", 373, "a value is out of range", 20), ("ProphecyShop", 375, "not possible now", 21), ("ProphecyShopLaw", 360, "shop ", 22), ("ProphecyShopLaw", 365, "event ", 23), ("ProphecyShopLaw", 367, "place ", 24), ("ProphecyShopLaw", 372, "customer ", 25), ("ProphecyShopLaw", 380, "owl ", 26), ("ProphecyShop", 110, "the text would be too long", 27)]
/-- the statics: class, name, descriptor, value -/
def rSta : List (String × String × String × (Value ⊕ (Nat × Nat))) := [("java/lang/String", "COMPACT_STRINGS", "Z", .inl (.int 1)), ("java/lang/Integer", "DigitOnes", "[B", .inr (1, 200)), ("java/lang/Integer", "DigitTens", "[B", .inr (1, 201))]
/-- private methods of the abstract class, called on objects of the classes below it -/
def rSel : List Cond := [.selects "ProphecyShop$SetupReader" ⟨"ProphecyShop$Reader", "next", "()V"⟩ ⟨"ProphecyShop$Reader", "next", "()V"⟩, .selects "ProphecyShop$SetupReader" ⟨"ProphecyShop$Reader", "codeOfName", "()I"⟩ ⟨"ProphecyShop$Reader", "codeOfName", "()I"⟩, .selects "java/lang/StringBuilder" ⟨"java/lang/AbstractStringBuilder", "ensureCapacityInternal", "(I)V"⟩ ⟨"java/lang/AbstractStringBuilder", "ensureCapacityInternal", "(I)V"⟩, .selects "java/lang/StringBuilder" ⟨"java/lang/AbstractStringBuilder", "newCapacity", "(I)I"⟩ ⟨"java/lang/AbstractStringBuilder", "newCapacity", "(I)I"⟩, .selects "java/lang/StringBuilder" ⟨"java/lang/AbstractStringBuilder", "putStringAt", "(ILjava/lang/String;)V"⟩ ⟨"java/lang/AbstractStringBuilder", "putStringAt", "(ILjava/lang/String;)V"⟩, .selects "java/lang/StringBuilder" ⟨"java/lang/AbstractStringBuilder", "inflateIfNeededFor", "(Ljava/lang/String;)V"⟩ ⟨"java/lang/AbstractStringBuilder", "inflateIfNeededFor", "(Ljava/lang/String;)V"⟩]
def lw_T : List Cond := lw_tbl ++ rSel
/-- pairs of classes that are no casts -/
def rNc : List (String × String) := []
